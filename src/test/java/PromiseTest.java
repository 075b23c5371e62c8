import java.util.NoSuchElementException;

/** The promises 1 to 53, each by answers that were worked out by hand from the document. */
public final class PromiseTest {
    private static final int NULL = Bitmapstore.NULL;
    private static final int ALL = Bitmapstore.ALL;
    private static final int NONE = Bitmapstore.NONE;
    private static final int MAX = Integer.MAX_VALUE;
    private static final int MIN = Integer.MIN_VALUE;

    private static final Checks checks = new Checks("PromiseTest");
    private static Bitmapstore x = new Bitmapstore();

    public static void main(String[] args) {
        changesOfRows();
        changesOfFilters();
        changesOfPackedSetsAndConditions();
        rowsAndColumns();
        aboutFilters();
        toldFromSets();
        packedSets();
        plans();
        measures();
        checks.finish();
    }

    private static void changesOfRows() {
        promise1();
        promise2();
        promise2Full();
        promise3();
        promise3Full();
        promise4();
        promise5();
    }

    private static void changesOfFilters() {
        promise6();
        promise6Edges();
        promise7();
        promise8();
        promise9();
        promise10();
        promise11();
        promise12();
        promise13();
        promise14();
        promise15();
        promise16();
    }

    private static void changesOfPackedSetsAndConditions() {
        promise17();
        promise18();
        promise19();
        promise20();
        promise21();
        promise22();
        promise22Each();
    }

    private static void rowsAndColumns() {
        promise23();
        promise24();
        promise25();
        promise26();
        promise27();
        promise28();
        promise29();
    }

    private static void aboutFilters() {
        promise30();
        promise31();
        promise32();
        promise33();
        promise34();
        promise35();
    }

    private static void toldFromSets() {
        promise36();
        promise37();
        promise38();
        promise39();
        promise40();
        promise41();
        promise42();
        promise42Order();
        promise43();
    }

    private static void packedSets() {
        promise44();
        promise45();
        promise46();
    }

    private static void plans() {
        promise47();
        promise48();
        promise49();
        promise49Bounds();
        promise50();
    }

    private static void measures() {
        promise51();
        promise52();
        promise53();
    }

    // ---- helpers

    private static void start(int promise) {
        checks.start("promise " + promise);
        x = new Bitmapstore();
    }

    /** Six rows, with values at the edges, like values, and NULL. */
    private static void startWithRows(int promise) {
        start(promise);
        x.addRow(5, -64, NULL, 0);
        x.addRow(-3, 63, NULL, 0);
        x.addRow(5, 0, 7, 0);
        x.addRow(NULL, 15, 7, 0);
        x.addRow(0, 16, -1, NULL);
        x.addRow(63, -49, NULL, 1);
    }

    /** A hundred and twenty rows; the value in the column 0 is the number, but from 60 on NULL. */
    private static void startFull(int promise) {
        start(promise);
        for (int row = 0; row < 120; row++) {
            x.addRow(row < 60 ? row : NULL, -1, row % 2, row / 64);
        }
    }

    private static void put(int filter, int... rows) {
        for (int row : rows) {
            x.put(filter, row, true);
        }
    }

    private static void packedOf(int packed, int... rows) {
        x.copyOf(7, 6);
        put(7, rows);
        x.pack(packed, 7);
    }

    private static String rowOf(int row) {
        return x.valueAt(row, 0) + " " + x.valueAt(row, 1) + " " + x.valueAt(row, 2) + " "
                + x.valueAt(row, 3);
    }

    private static String filter(int filter) {
        StringBuilder text = new StringBuilder();
        for (int row = 0; row < 120; row++) {
            if (x.has(filter, row)) {
                text.append(text.length() == 0 ? "" : " ").append(row);
            }
        }
        return text.toString();
    }

    private static String packed(int packed) {
        StringBuilder text = new StringBuilder();
        for (int run = 0; run < x.runs(packed); run++) {
            int first = x.runAt(packed, run, false);
            text.append(run == 0 ? "" : " ").append(first).append("-")
                    .append(first + x.runAt(packed, run, true) - 1);
        }
        return text.toString();
    }

    private static String condition(int condition) {
        return x.conditionAt(condition, 0) + " " + x.conditionAt(condition, 1) + " "
                + x.conditionAt(condition, 2);
    }

    private static String group(int group) {
        return x.groupAt(group, 0) + " " + x.groupAt(group, 1) + " " + x.groupAt(group, 2) + " "
                + x.groupAt(group, 3) + ": " + x.groupAt(group, 4);
    }

    private static String all() {
        StringBuilder text = new StringBuilder();
        for (int row = x.nextRow(0); row != NONE; row = x.nextRow(row + 1)) {
            text.append(row).append(": ").append(rowOf(row)).append("\n");
        }
        for (int i = 0; i < 8; i++) {
            text.append(filter(i)).append("\n");
        }
        for (int i = 0; i < 4; i++) {
            text.append(packed(i)).append("\n");
        }
        for (int i = 0; i < x.conditions(); i++) {
            text.append(condition(i)).append("\n");
        }
        return text.toString();
    }

    private static void index(String call, Checks.Call made) {
        String ahead = all();
        checks.dueIndex(call, made);
        checks.dueText("after " + call, all(), ahead);
    }

    private static void argument(String call, Checks.Call made) {
        String ahead = all();
        checks.dueArgument(call, made);
        checks.dueText("after " + call, all(), ahead);
    }

    private static void state(String call, Checks.Call made) {
        String ahead = all();
        checks.dueState(call, made);
        checks.dueText("after " + call, all(), ahead);
    }

    private static void due(String call, long got, long want) {
        checks.due(call, got, want);
    }

    private static void due(String call, boolean got, boolean want) {
        checks.due(call, got, want);
    }

    private static void dueText(String call, String got, String want) {
        checks.dueText(call, got, want);
    }

    // ---- changes of rows

    private static void promise1() {
        start(1);
        due("rows", x.rows(), 0);
        due("nextRow", x.nextRow(0), NONE);
        due("conditions", x.conditions(), 0);
        for (int i = 0; i < 8; i++) {
            due("count " + i, x.count(i), 0);
        }
        for (int i = 0; i < 4; i++) {
            due("runs " + i, x.runs(i), 0);
            due("values " + i, x.values(i), 0);
        }
        index("groupAt ahead of a rollup", () -> x.groupAt(0, 0));
        state("undo ahead of a change", () -> x.undo());
        due("NONE", Bitmapstore.NONE, -1);
        due("NULL", Bitmapstore.NULL, 100);
        due("ALL", Bitmapstore.ALL, 101);
        due("VALUES", Bitmapstore.VALUES, 0);
        due("BOUNDS", Bitmapstore.BOUNDS, 1);
        due("DIGITS", Bitmapstore.DIGITS, 2);
        due("AND", Bitmapstore.AND, 0);
        due("OR", Bitmapstore.OR, 1);
        due("XOR", Bitmapstore.XOR, 2);
        due("AND_NOT", Bitmapstore.AND_NOT, 3);
        x.addRow(1, 1, 1, 1);
        due("another store has its own rows", new Bitmapstore().rows(), 0);
    }

    private static void promise2() {
        start(2);
        due("first row", x.addRow(1, -64, 63, NULL), 0);
        due("second row", x.addRow(NULL, NULL, NULL, NULL), 1);
        due("third row", x.addRow(0, 0, 0, 0), 2);
        dueText("row 0", rowOf(0), "1 -64 63 100");
        dueText("row 1", rowOf(1), "100 100 100 100");
        x.contrary(0);
        for (int wrong : new int[] {-65, 64, 99, 101, MIN, MAX}) {
            argument("first " + wrong, () -> x.addRow(wrong, 0, 0, 0));
            argument("second " + wrong, () -> x.addRow(0, wrong, 0, 0));
            argument("third " + wrong, () -> x.addRow(0, 0, wrong, 0));
            argument("fourth " + wrong, () -> x.addRow(0, 0, 0, wrong));
        }
        x.strike(2);
        x.strike(0);
        due("the least number", x.addRow(7, 7, 7, 7), 0);
        dueText("a new row is in no filter", filter(0), "1");
        due("the next number", x.addRow(8, 8, 8, 8), 2);
        due("rows", x.rows(), 3);
    }

    private static void promise2Full() {
        startFull(2);
        due("rows", x.rows(), 120);
        dueText("the last row", rowOf(119), "100 -1 1 1");
        state("a row too many", () -> x.addRow(0, 0, 0, 0));
        argument("a wrong value comes first", () -> x.addRow(0, 0, 0, 64));
        x.strike(64);
        due("the one place", x.addRow(1, 2, 3, 4), 64);
    }

    private static void promise3() {
        start(3);
        due("three rows", x.fill(1, 3, 10), 3);
        dueText("row 0", rowOf(0), "-4 -7 5 -3");
        dueText("row 1", rowOf(1), "-4 -3 -2 1");
        dueText("row 2", rowOf(2), "1 4 -4 1");
        x.contrary(0);
        x.strike(1);
        due("a seed below 0, the widest spread", x.fill(-5, 2, 64), 4);
        dueText("the least free number", rowOf(1), "100 -49 -60 -30");
        dueText("the next one", rowOf(3), "100 100 -19 -7");
        dueText("new rows are in no filter", filter(0), "0 2");
        due("the narrowest spread", x.fill(9, 2, 1), 6);
        dueText("row 4", rowOf(4), "100 0 -1 0");
        dueText("row 5", rowOf(5), "0 0 0 0");
        argument("many 0", () -> x.fill(1, 0, 10));
        argument("many 21", () -> x.fill(1, 21, 10));
        argument("many far below", () -> x.fill(1, MIN, 10));
        argument("spread 0", () -> x.fill(1, 1, 0));
        argument("spread 65", () -> x.fill(1, 1, 65));
        argument("spread far above", () -> x.fill(1, 1, MAX));
        due("one change", x.undo(), 4);
        due("rows after undo", x.rows(), 4);
    }

    private static void promise3Full() {
        start(3);
        for (int i = 1; i < 6; i++) {
            due("fill " + i, x.fill(i, 20, i), 20 * i);
        }
        due("one row more", x.fill(6, 1, 6), 101);
        state("a row too many", () -> x.fill(7, 20, 7));
        argument("a wrong spread comes first", () -> x.fill(7, 20, 0));
        argument("a wrong number comes first", () -> x.fill(7, 21, 7));
        due("up to the last row", x.fill(7, 19, 7), 120);
        state("not one more", () -> x.fill(7, 1, 7));
    }

    private static void promise4() {
        startWithRows(4);
        x.select(0, 0, 2, 5, 0);
        due("what it was", x.setValue(0, 0, -64), 5);
        due("what it is", x.valueAt(0, 0), -64);
        dueText("filters stay", filter(0), "0 2");
        due("from NULL", x.setValue(0, 2, 63), NULL);
        due("to NULL", x.setValue(5, 1, NULL), -49);
        dueText("row 0", rowOf(0), "-64 -64 63 0");
        dueText("row 5", rowOf(5), "63 100 100 1");
        due("by values", x.select(1, 0, 2, 5, 0), 1);
        due("by bounds", x.select(1, 0, 0, 0, 1), 2);
        due("by digits", x.select(1, 0, 2, -64, 2), 1);
        due("errors", x.errors(), 0);
        index("row 6", () -> x.setValue(6, 0, 0));
        index("row -1", () -> x.setValue(-1, 0, 0));
        index("row 120", () -> x.setValue(120, 0, 0));
        index("column 4", () -> x.setValue(0, 4, 0));
        index("column -1", () -> x.setValue(0, -1, 0));
        argument("value 64", () -> x.setValue(0, 0, 64));
        argument("value -65", () -> x.setValue(0, 0, -65));
        argument("value ALL", () -> x.setValue(0, 0, ALL));
        index("row ahead of value", () -> x.setValue(6, 0, 64));
        index("column ahead of value", () -> x.setValue(0, 4, 64));
    }

    private static void promise5() {
        startWithRows(5);
        put(0, 1, 2);
        put(3, 2);
        put(7, 2, 5);
        x.pack(1, 7);
        due("filters of row 2", x.strike(2), 3);
        due("rows", x.rows(), 5);
        dueText("filter 0", filter(0), "1");
        dueText("filter 3", filter(3), "");
        dueText("filter 7", filter(7), "5");
        dueText("packed sets stay", packed(1), "2-2 5-5");
        due("values of column 1", x.values(1), 5);
        due("the rows of its value", x.kept(0, 0, 5), 1);
        due("filters of row 0", x.strike(0), 0);
        index("struck row", () -> x.strike(2));
        index("row -1", () -> x.strike(-1));
        index("row 120", () -> x.strike(120));
        index("row far above", () -> x.strike(MAX));
    }

    // ---- changes of filters

    private static void promise6() {
        startWithRows(6);
        String[] found = {"1 4", "0 1 2 4", "0 2", "0 2 5", "5", "1 4 5", "3", "0 1 2 4 5"};
        int[] many = {2, 4, 2, 3, 1, 3, 1, 5};
        for (int test = 0; test < 8; test++) {
            for (int way = 0; way < 3; way++) {
                String call = "test " + test + ", way " + way;
                due(call, x.select(way, 0, test, 5, way), many[test]);
                dueText(call, filter(way), found[test]);
            }
        }
        index("filter 8", () -> x.select(8, 0, 0, 0, 0));
        index("filter -1", () -> x.select(-1, 0, 0, 0, 0));
        index("column 4", () -> x.select(0, 4, 0, 0, 0));
        index("column -1", () -> x.select(0, -1, 0, 0, 0));
        argument("test 8", () -> x.select(0, 0, 8, 0, 0));
        argument("test -1", () -> x.select(0, 0, -1, 0, 0));
        argument("number 64", () -> x.select(0, 0, 0, 64, 0));
        argument("number -65", () -> x.select(0, 0, 0, -65, 0));
        argument("number 64 of test 6", () -> x.select(0, 0, 6, 64, 0));
        argument("number NULL of test 7", () -> x.select(0, 0, 7, NULL, 0));
        argument("way 3", () -> x.select(0, 0, 0, 0, 3));
        argument("way -1", () -> x.select(0, 0, 7, 0, -1));
        index("filter ahead of test", () -> x.select(8, 0, 8, 0, 0));
        index("column ahead of number", () -> x.select(0, 4, 0, 64, 0));
        index("column ahead of way", () -> x.select(0, 4, 0, 0, 3));
    }

    private static void promise6Edges() {
        startWithRows(6);
        for (int way = 0; way < 3; way++) {
            due("less than -64", x.select(0, 1, 0, -64, way), 0);
            due("at most -64", x.select(0, 1, 1, -64, way), 1);
            due("at least -64", x.select(0, 1, 3, -64, way), 6);
            due("more than 63", x.select(0, 1, 4, 63, way), 0);
            due("at least 63", x.select(0, 1, 3, 63, way), 1);
            due("less than 63", x.select(0, 1, 0, 63, way), 5);
            due("less than a bound", x.select(0, 1, 0, 16, way), 4);
            due("at most a bound", x.select(0, 1, 1, 16, way), 5);
            due("ahead of a bound", x.select(0, 1, 0, 15, way), 3);
            due("below 0", x.select(0, 2, 0, 0, way), 1);
            due("no row with NULL", x.select(0, 2, 5, 0, way), 3);
            due("equal to a value that is not there", x.select(0, 2, 2, 0, way), 0);
        }
        start(6);
        for (int test = 0; test < 8; test++) {
            due("without rows, test " + test, x.select(0, 0, test, 0, test % 3), 0);
        }
    }

    private static void promise7() {
        startWithRows(7);
        due("both included", x.between(0, 1, -49, 15), 3);
        dueText("both included", filter(0), "2 3 5");
        due("one value", x.between(0, 1, 15, 15), 1);
        due("all values", x.between(0, 0, -64, 63), 5);
        dueText("all values", filter(0), "0 1 2 4 5");
        due("high below low", x.between(0, 0, 5, 4), 0);
        dueText("high below low", filter(0), "");
        due("up from 16", x.between(0, 1, 16, 63), 2);
        index("filter 8", () -> x.between(8, 0, 0, 1));
        index("column 4", () -> x.between(0, 4, 0, 1));
        argument("low -65", () -> x.between(0, 0, -65, 1));
        argument("low 64", () -> x.between(0, 0, 64, 1));
        argument("high 64", () -> x.between(0, 0, 0, 64));
        argument("high -65", () -> x.between(0, 0, 0, -65));
        index("filter ahead of low", () -> x.between(-1, 0, 64, 1));
        index("column ahead of high", () -> x.between(0, -1, 0, 64));
    }

    private static void promise8() {
        startWithRows(8);
        String[] found = {"1 4", "1 4", "", "0 2 5", "0 2 5", "0 1 2 4 5"};
        for (int test = 0; test < 6; test++) {
            int many = found[test].isEmpty() ? 0 : (found[test].length() + 1) / 2;
            due("test " + test, x.compare(0, 0, test, 1), many);
            dueText("test " + test, filter(0), found[test]);
        }
        due("NULL in either column", x.compare(0, 2, 5, 3), 2);
        dueText("NULL in either column", filter(0), "2 3");
        x.setValue(0, 3, 5);
        due("equal", x.compare(0, 0, 2, 3), 1);
        due("less or equal", x.compare(0, 0, 1, 3), 2);
        dueText("less or equal", filter(0), "0 1");
        due("greater or equal", x.compare(0, 0, 3, 3), 3);
        due("greater", x.compare(0, 0, 4, 3), 2);
        x.setValue(2, 3, 4);
        due("by the last digit", x.compare(0, 0, 4, 3), 2);
        x.setValue(2, 3, 6);
        due("by the last digits", x.compare(0, 0, 0, 3), 2);
        x.setValue(2, 1, -2);
        x.setValue(2, 2, -1);
        due("by the last digit below 0", x.compare(0, 2, 4, 1), 1);
        due("by the last digit below 0, less", x.compare(0, 1, 0, 2), 1);
        due("the same column, equal", x.compare(0, 0, 2, 0), 5);
        due("the same column, unlike", x.compare(0, 0, 5, 0), 0);
        index("filter 8", () -> x.compare(8, 0, 0, 0));
        index("column 4", () -> x.compare(0, 4, 0, 0));
        index("other 4", () -> x.compare(0, 0, 0, 4));
        index("other -1", () -> x.compare(0, 0, 0, -1));
        argument("test 6", () -> x.compare(0, 0, 6, 0));
        argument("test 7", () -> x.compare(0, 0, 7, 0));
        argument("test -1", () -> x.compare(0, 0, -1, 0));
        index("other ahead of test", () -> x.compare(0, 0, 6, 4));
    }

    private static void promise9() {
        startWithRows(9);
        String[] found = {"1 2", "0 1 2 5", "0 5", "0"};
        int[] many = {2, 4, 2, 1};
        for (int operation = 0; operation < 4; operation++) {
            x.copyOf(0, 7);
            x.copyOf(1, 7);
            put(0, 0, 1, 2);
            put(1, 1, 2, 5);
            due("operation " + operation, x.combine(0, operation, 1), many[operation]);
            dueText("operation " + operation, filter(0), found[operation]);
            dueText("the other one stays", filter(1), "1 2 5");
        }
        due("AND with itself", x.combine(1, Bitmapstore.AND, 1), 3);
        due("OR with itself", x.combine(1, Bitmapstore.OR, 1), 3);
        x.copyOf(2, 1);
        due("XOR with itself", x.combine(1, Bitmapstore.XOR, 1), 0);
        due("AND_NOT with itself", x.combine(2, Bitmapstore.AND_NOT, 2), 0);
        index("filter 8", () -> x.combine(8, 0, 0));
        index("other 8", () -> x.combine(0, 0, 8));
        argument("operation 4", () -> x.combine(0, 4, 0));
        argument("operation -1", () -> x.combine(0, -1, 0));
        index("other ahead of operation", () -> x.combine(0, 4, 8));
    }

    private static void promise10() {
        startWithRows(10);
        x.strike(4);
        put(0, 0, 5);
        due("contrary", x.contrary(0), 3);
        dueText("only rows", filter(0), "1 2 3");
        due("of no rows", x.contrary(1), 5);
        due("of all rows", x.contrary(1), 0);
        index("filter 8", () -> x.contrary(8));
        index("filter -1", () -> x.contrary(-1));
        startFull(10);
        put(0, 0, 63, 64, 119);
        due("of many rows", x.contrary(0), 116);
    }

    private static void promise11() {
        startWithRows(11);
        put(0, 0, 5);
        put(1, 2);
        due("copy", x.copyOf(1, 0), 2);
        dueText("copy", filter(1), "0 5");
        x.put(1, 3, true);
        dueText("the other one stays", filter(0), "0 5");
        due("itself", x.copyOf(0, 0), 2);
        dueText("itself", filter(0), "0 5");
        index("filter 8", () -> x.copyOf(8, 0));
        index("other 8", () -> x.copyOf(0, 8));
        index("other -1", () -> x.copyOf(0, -1));
    }

    private static void promise12() {
        startWithRows(12);
        due("into", x.put(0, 3, true), false);
        due("into again", x.put(0, 3, true), true);
        dueText("in", filter(0), "3");
        due("out", x.put(0, 3, false), true);
        due("out again", x.put(0, 3, false), false);
        dueText("out", filter(0), "");
        index("filter 8", () -> x.put(8, 0, true));
        index("row 6", () -> x.put(0, 6, true));
        index("row 6, out", () -> x.put(0, 6, false));
        index("row -1", () -> x.put(0, -1, true));
        index("row 120", () -> x.put(0, 120, true));
        due("also a call without an effect is a change", x.undo(), 7);
    }

    private static void promise13() {
        startFull(13);
        put(0, 0, 1, 2, 3, 4, 5, 6, 7, 8, 9);
        x.copyOf(1, 0);
        due("four rows", x.sample(0, 1, 4), 4);
        dueText("four rows", filter(0), "1 3 6 8");
        due("a seed below 0", x.sample(1, -77, 4), 4);
        dueText("a seed below 0", filter(1), "0 1 4 6");
        put(2, 2, 4, 6);
        x.copyOf(3, 2);
        due("two rows", x.sample(2, 3, 2), 2);
        dueText("two rows", filter(2), "4 6");
        due("more than there are", x.sample(3, 3, 120), 3);
        dueText("more than there are", filter(3), "2 4 6");
        due("none", x.sample(3, 3, 0), 0);
        dueText("none", filter(3), "");
        due("of no rows", x.sample(3, 3, 5), 0);
        index("filter 8", () -> x.sample(8, 1, 1));
        argument("many -1", () -> x.sample(0, 1, -1));
        argument("many 121", () -> x.sample(0, 1, 121));
        index("filter ahead of many", () -> x.sample(8, 1, 121));
    }

    /** In the column 0 are 1 1 2 3 -, in the column 1 are 1 - 1 2 2. */
    private static void startJoin(int promise) {
        start(promise);
        x.addRow(1, 1, NULL, -64);
        x.addRow(1, NULL, NULL, -64);
        x.addRow(2, 1, NULL, 63);
        x.addRow(3, 2, 0, 63);
        x.addRow(NULL, 2, 0, -64);
        put(0, 0, 1, 2, 3, 4);
        put(1, 0, 2, 3);
        put(2, 3, 4);
    }

    private static void promise14() {
        startJoin(14);
        due("all rows", x.partners(3, 0, 0, 1, 0), 3);
        dueText("all rows", filter(3), "0 1 2");
        due("the other way", x.partners(3, 1, 0, 0, 0), 4);
        dueText("the other way", filter(3), "0 2 3 4");
        due("within filters", x.partners(3, 0, 1, 1, 2), 1);
        dueText("within filters", filter(3), "2");
        due("NULL is not the same", x.partners(3, 2, 0, 2, 0), 2);
        dueText("NULL is not the same", filter(3), "3 4");
        due("the outermost values", x.partners(3, 3, 0, 3, 1), 5);
        due("into the first one", x.partners(1, 0, 1, 1, 0), 2);
        dueText("into the first one", filter(1), "0 2");
        due("into the second one", x.partners(2, 1, 0, 0, 2), 0);
        dueText("into the second one", filter(2), "");
        dueText("the first one stays", filter(0), "0 1 2 3 4");
        due("with itself into itself", x.partners(0, 0, 0, 0, 0), 4);
        dueText("with itself into itself", filter(0), "0 1 2 3");
        index("into 8", () -> x.partners(8, 0, 0, 0, 0));
        index("column 4", () -> x.partners(0, 4, 0, 0, 0));
        index("filter 8", () -> x.partners(0, 0, 8, 0, 0));
        index("other column 4", () -> x.partners(0, 0, 0, 4, 0));
        index("other 8", () -> x.partners(0, 0, 0, 0, 8));
        index("other -1", () -> x.partners(0, 0, 0, 0, -1));
    }

    private static void promise15() {
        startWithRows(15);
        x.strike(2);
        put(0, 4);
        due("without conditions", x.runPlan(0), 5);
        dueText("without conditions", filter(0), "0 1 3 4 5");
        x.addCondition(0, 3, 0);
        due("one condition", x.runPlan(0), 3);
        dueText("one condition", filter(0), "0 4 5");
        x.addCondition(1, 0, 16);
        due("two conditions", x.runPlan(0), 2);
        dueText("two conditions", filter(0), "0 5");
        x.addCondition(2, 6, 0);
        x.addCondition(3, 5, 1);
        due("four conditions", x.runPlan(0), 1);
        dueText("four conditions", filter(0), "0");
        x.dropCondition(0);
        due("three conditions", x.runPlan(1), 1);
        x.addCondition(3, 6, 63);
        due("that no row satisfies", x.runPlan(1), 0);
        index("filter 8", () -> x.runPlan(8));
        index("filter -1", () -> x.runPlan(-1));
    }

    private static void promise16() {
        startWithRows(16);
        packedOf(1, 0, 1, 4);
        x.strike(1);
        put(0, 5);
        due("only rows", x.unpack(0, 1), 2);
        dueText("only rows", filter(0), "0 4");
        dueText("the packed set stays", packed(1), "0-1 4-4");
        due("an empty one", x.unpack(0, 0), 0);
        x.contraryPacked(0);
        due("all numbers", x.unpack(0, 0), 5);
        x.addRow(1, 1, 1, 1);
        due("a number that is a row again", x.unpack(0, 1), 3);
        index("filter 8", () -> x.unpack(8, 0));
        index("packed 4", () -> x.unpack(0, 4));
        index("packed -1", () -> x.unpack(0, -1));
    }

    // ---- changes of packed sets and conditions

    private static void promise17() {
        startFull(17);
        put(0, 0, 1, 2, 62, 63, 64, 65, 70, 118, 119);
        due("runs", x.pack(2, 0), 4);
        dueText("runs", packed(2), "0-2 62-65 70-70 118-119");
        dueText("the filter stays", filter(0), "0 1 2 62 63 64 65 70 118 119");
        x.contrary(0);
        dueText("the packed set stays", packed(2), "0-2 62-65 70-70 118-119");
        due("an empty filter", x.pack(2, 1), 0);
        x.contrary(1);
        due("all rows", x.pack(2, 1), 1);
        dueText("all rows", packed(2), "0-119");
        index("packed 4", () -> x.pack(4, 0));
        index("packed -1", () -> x.pack(-1, 0));
        index("filter 8", () -> x.pack(0, 8));
    }

    private static void promise18() {
        startFull(18);
        String[] found = {"5-6", "1-6 60-70 100-100", "1-4 60-70 100-100", "1-4 100-100"};
        int[] many = {1, 3, 3, 2};
        for (int operation = 0; operation < 4; operation++) {
            packedOf(0, 1, 2, 3, 4, 5, 6, 100);
            packedOf(1, 5, 6, 60, 61, 62, 63, 64, 65, 66, 67, 68, 69, 70);
            due("operation " + operation, x.combinePacked(0, operation, 1), many[operation]);
            dueText("operation " + operation, packed(0), found[operation]);
            dueText("the other one stays", packed(1), "5-6 60-70");
        }
        due("OR with itself", x.combinePacked(1, Bitmapstore.OR, 1), 2);
        due("AND with itself", x.combinePacked(1, Bitmapstore.AND, 1), 2);
        due("XOR with itself", x.combinePacked(1, Bitmapstore.XOR, 1), 0);
        due("AND_NOT with itself", x.combinePacked(0, Bitmapstore.AND_NOT, 0), 0);
        index("packed 4", () -> x.combinePacked(4, 0, 0));
        index("other 4", () -> x.combinePacked(0, 0, 4));
        argument("operation 4", () -> x.combinePacked(0, 4, 0));
        argument("operation -1", () -> x.combinePacked(0, -1, 0));
        index("other ahead of operation", () -> x.combinePacked(0, 4, 4));
    }

    private static void promise19() {
        start(19);
        due("of an empty one, without rows", x.contraryPacked(3), 1);
        dueText("all numbers", packed(3), "0-119");
        due("of all numbers", x.contraryPacked(3), 0);
        startFull(19);
        packedOf(0, 0, 63, 64, 118);
        due("four runs", x.contraryPacked(0), 3);
        dueText("four runs", packed(0), "1-62 65-117 119-119");
        index("packed 4", () -> x.contraryPacked(4));
        index("packed -1", () -> x.contraryPacked(-1));
    }

    private static void promise20() {
        start(20);
        due("first", x.addCondition(0, 0, -64), 0);
        due("second", x.addCondition(3, 7, 63), 1);
        due("third", x.addCondition(1, 2, 0), 2);
        index("column 4", () -> x.addCondition(4, 0, 0));
        index("column -1", () -> x.addCondition(-1, 0, 0));
        argument("test 8", () -> x.addCondition(0, 8, 0));
        argument("test -1", () -> x.addCondition(0, -1, 0));
        argument("number 64", () -> x.addCondition(0, 0, 64));
        argument("number -65", () -> x.addCondition(0, 6, -65));
        due("fourth", x.addCondition(1, 2, 0), 3);
        dueText("0", condition(0), "0 0 -64");
        dueText("1", condition(1), "3 7 63");
        dueText("3", condition(3), "1 2 0");
        state("a condition too many", () -> x.addCondition(0, 0, 0));
        argument("test ahead of state", () -> x.addCondition(0, 8, 0));
        index("column ahead of test and state", () -> x.addCondition(4, 8, 0));
    }

    private static void promise21() {
        start(21);
        x.addCondition(0, 0, 10);
        x.addCondition(1, 1, 11);
        x.addCondition(2, 2, 12);
        x.addCondition(3, 3, 13);
        due("the second one", x.dropCondition(1), 3);
        dueText("0", condition(0), "0 0 10");
        dueText("1", condition(1), "2 2 12");
        dueText("2", condition(2), "3 3 13");
        index("condition 3", () -> x.dropCondition(3));
        index("condition -1", () -> x.dropCondition(-1));
        due("the last one", x.dropCondition(2), 2);
        due("a new one", x.addCondition(0, 4, 14), 2);
        dueText("the new one", condition(2), "0 4 14");
        due("the first one", x.dropCondition(0), 2);
        x.dropCondition(0);
        due("none left", x.dropCondition(0), 0);
        index("condition 0 of none", () -> x.dropCondition(0));
    }

    private static void promise22() {
        start(22);
        state("no change", () -> x.undo());
        x.addRow(1, 1, 1, 1);
        due("one change", x.undo(), 0);
        due("rows", x.rows(), 0);
        state("no change left", () -> x.undo());
        for (int i = 0; i < 12; i++) {
            x.addRow(i, i, i, i);
        }
        due("a call that throws is no change", rowsAfterThrow(), 12);
        for (int left = 7; left >= 3; left--) {
            due("left", x.undo(), left);
            due("rows", x.rows(), left + 4);
        }
        x.addRow(50, 50, 50, 50);
        x.put(0, 7, true);
        due("after new changes", x.undo(), 4);
        due("after new changes", x.undo(), 3);
        due("rows", x.rows(), 7);
        due("two", x.undo(), 2);
        due("one", x.undo(), 1);
        due("none", x.undo(), 0);
        due("rows of the oldest one", x.rows(), 4);
        state("more than eight", () -> x.undo());
        due("row 4 is new", x.addRow(9, 9, 9, 9), 4);
        due("errors", x.errors(), 0);
    }

    private static int rowsAfterThrow() {
        argument("a wrong value", () -> x.addRow(0, 0, 0, 64));
        return x.rows();
    }

    /** Each kind of change is undone, and no kind is left out. */
    private static void promise22Each() {
        startWithRows(22);
        put(0, 0, 1, 2);
        put(1, 2, 5);
        x.pack(0, 0);
        x.addCondition(0, 0, 3);
        x.addCondition(1, 3, 3);
        Checks.Call[] changes = {
            () -> x.addRow(1, 2, 3, 4), () -> x.fill(1, 20, 20), () -> x.setValue(0, 0, -9),
            () -> x.strike(2), () -> x.select(0, 0, 4, 0, 0), () -> x.between(0, 0, 1, 9),
            () -> x.compare(0, 0, 0, 1), () -> x.combine(0, 1, 1), () -> x.contrary(0),
            () -> x.copyOf(0, 1), () -> x.put(0, 5, true), () -> x.sample(0, 1, 2),
            () -> x.partners(0, 0, 1, 0, 1), () -> x.runPlan(0), () -> x.unpack(1, 0),
            () -> x.pack(0, 1), () -> x.combinePacked(1, 1, 0), () -> x.contraryPacked(0),
            () -> x.addCondition(0, 1, 2), () -> x.dropCondition(0),
            () -> x.copyOf(0, 0), () -> x.setValue(0, 0, 5), () -> x.put(0, 0, true),
        };
        for (int i = 0; i < changes.length; i++) {
            String ahead = all();
            changes[i].run();
            boolean isDifferent = !all().equals(ahead);
            due("change " + i + " changes something", isDifferent, i < 20);
            due("change " + i + " can be undone", x.undo(), 7);
            dueText("change " + i + " is undone", all(), ahead);
            due("errors", x.errors(), 0);
            // if a change was not remembered, undo would take this one back in its place
            x.put(7, 4, i % 2 == 0);
        }
        x.rollup(0, 1);
        String group = group(0);
        x.undo();
        dueText("groups stay", group(0), group);
    }

    // ---- rows and columns

    private static void promise23() {
        start(23);
        due("none", x.rows(), 0);
        x.addRow(NULL, NULL, NULL, NULL);
        due("one", x.rows(), 1);
        x.fill(1, 20, 5);
        due("21", x.rows(), 21);
        x.strike(4);
        due("20", x.rows(), 20);
        startFull(23);
        due("all", x.rows(), 120);
    }

    private static void promise24() {
        startWithRows(24);
        x.strike(0);
        x.strike(3);
        due("from 0", x.nextRow(0), 1);
        due("from 1", x.nextRow(1), 1);
        due("from 3", x.nextRow(3), 4);
        due("from 6", x.nextRow(6), NONE);
        due("from 120", x.nextRow(120), NONE);
        due("from far above", x.nextRow(MAX), NONE);
        index("from -1", () -> x.nextRow(-1));
        index("from far below", () -> x.nextRow(MIN));
        startFull(24);
        x.strike(63);
        x.strike(64);
        due("from 63", x.nextRow(63), 65);
        due("from 62", x.nextRow(62), 62);
        due("from 119", x.nextRow(119), 119);
    }

    private static void promise25() {
        startWithRows(25);
        due("a value", x.valueAt(5, 1), -49);
        due("another one", x.valueAt(4, 2), -1);
        due("NULL", x.valueAt(3, 0), NULL);
        x.strike(2);
        index("a struck row", () -> x.valueAt(2, 0));
        index("row 6", () -> x.valueAt(6, 0));
        index("row -1", () -> x.valueAt(-1, 0));
        index("column 4", () -> x.valueAt(0, 4));
        index("column -1", () -> x.valueAt(0, -1));
    }

    private static void promise26() {
        startWithRows(26);
        due("column 0", x.values(0), 4);
        due("column 1", x.values(1), 6);
        due("column 2", x.values(2), 2);
        due("column 3", x.values(3), 2);
        x.strike(0);
        due("a like value is left", x.values(0), 4);
        x.setValue(2, 0, NULL);
        due("none is left", x.values(0), 3);
        index("column 4", () -> x.values(4));
        index("column -1", () -> x.values(-1));
    }

    private static void promise27() {
        startWithRows(27);
        due("least of column 0", x.outermost(0, false), -3);
        due("greatest of column 0", x.outermost(0, true), 63);
        due("least of column 1", x.outermost(1, false), -64);
        due("greatest of column 1", x.outermost(1, true), 63);
        due("least of column 2", x.outermost(2, false), -1);
        start(27);
        x.addRow(NULL, 4, NULL, NULL);
        due("the one value is the least", x.outermost(1, false), 4);
        due("the one value is the greatest", x.outermost(1, true), 4);
        checks.dueThrow("least of none", NoSuchElementException.class, () -> x.outermost(0, false));
        checks.dueThrow("greatest of none", NoSuchElementException.class,
                () -> x.outermost(0, true));
        index("column 4", () -> x.outermost(4, true));
        index("column -1", () -> x.outermost(-1, false));
    }

    private static void promise28() {
        startWithRows(28);
        due("above 5", x.beside(0, 5, true), 63);
        due("above 4", x.beside(0, 4, true), 5);
        due("above 63", x.beside(0, 63, true), NULL);
        due("below 5", x.beside(0, 5, false), 0);
        due("below -3", x.beside(0, -3, false), NULL);
        due("above far below", x.beside(1, MIN, true), -64);
        due("below far above", x.beside(1, MAX, false), 63);
        due("above far above", x.beside(1, MAX, true), NULL);
        due("below far below", x.beside(1, MIN, false), NULL);
        due("below -63", x.beside(1, -63, false), -64);
        start(28);
        due("of no values", x.beside(2, 0, true), NULL);
        index("column 4", () -> x.beside(4, 0, true));
        index("column -1", () -> x.beside(-1, 0, false));
    }

    private static void promise29() {
        startWithRows(29);
        due("value 5", x.kept(0, 0, 5), 2);
        due("value -64", x.kept(1, 0, -64), 1);
        due("value 63", x.kept(1, 0, 63), 1);
        due("a value that no row has", x.kept(0, 0, 6), 0);
        int[] below = {0, 2, 2, 2, 2, 4, 5, 5};
        for (int bound = 0; bound < 8; bound++) {
            due("bound " + bound, x.kept(1, 1, bound), below[bound]);
        }
        // -64 is 1000000, 63 is 0111111, 0, 15 is 0001111, 16 is 0010000, -49 is 1001111
        int[] with = {3, 3, 3, 3, 2, 1, 2, 6};
        for (int digit = 0; digit < 8; digit++) {
            due("digit " + digit, x.kept(1, 2, digit), with[digit]);
        }
        due("rows with a value", x.kept(0, 2, 7), 5);
        due("digits of -1", x.kept(2, 2, 6), 1);
        index("column 4", () -> x.kept(4, 0, 0));
        argument("way 3", () -> x.kept(0, 3, 0));
        argument("way -1", () -> x.kept(0, -1, 0));
        argument("value 64", () -> x.kept(0, 0, 64));
        argument("value -65", () -> x.kept(0, 0, -65));
        argument("value NULL", () -> x.kept(0, 0, NULL));
        argument("bound 8", () -> x.kept(0, 1, 8));
        argument("bound -1", () -> x.kept(0, 1, -1));
        argument("digit 8", () -> x.kept(0, 2, 8));
        argument("digit -1", () -> x.kept(0, 2, -1));
        index("column ahead of way", () -> x.kept(4, 3, 0));
    }

    // ---- about filters

    private static void promise30() {
        startFull(30);
        due("none", x.count(0), 0);
        put(0, 0, 63, 64, 119);
        due("four", x.count(0), 4);
        x.strike(63);
        due("three", x.count(0), 3);
        index("filter 8", () -> x.count(8));
        index("filter -1", () -> x.count(-1));
    }

    private static void promise31() {
        startFull(31);
        put(0, 0, 5, 63, 64, 65, 119);
        due("all", x.countIn(0, 0, 120), 6);
        due("far above", x.countIn(0, 0, MAX), 6);
        due("from is in", x.countIn(0, 5, 64), 2);
        due("to is not in", x.countIn(0, 5, 63), 1);
        due("up to 65", x.countIn(0, 6, 65), 2);
        due("the last one", x.countIn(0, 119, 120), 1);
        due("ahead of the last one", x.countIn(0, 66, 119), 0);
        due("an empty range", x.countIn(0, 5, 5), 0);
        due("0 to 0", x.countIn(0, 0, 0), 0);
        due("behind all", x.countIn(0, 120, MAX), 0);
        index("filter 8", () -> x.countIn(8, 0, 1));
        index("from -1", () -> x.countIn(0, -1, 1));
        index("to -1", () -> x.countIn(0, 0, -1));
        index("both -1", () -> x.countIn(0, -1, -1));
        index("from above to", () -> x.countIn(0, 2, 1));
    }

    private static void promise32() {
        startFull(32);
        put(0, 0, 63, 119);
        due("0", x.has(0, 0), true);
        due("63", x.has(0, 63), true);
        due("64", x.has(0, 64), false);
        due("119", x.has(0, 119), true);
        due("120", x.has(0, 120), false);
        due("127", x.has(0, 127), false);
        due("128", x.has(0, 128), false);
        due("far above", x.has(0, MAX), false);
        x.strike(0);
        due("a struck row", x.has(0, 0), false);
        index("filter 8", () -> x.has(8, 0));
        index("filter -1", () -> x.has(-1, 0));
        index("row -1", () -> x.has(0, -1));
    }

    private static void promise33() {
        startFull(33);
        put(0, 3, 63, 64, 110);
        due("up from 0", x.next(0, 0, true), 3);
        due("up from 3", x.next(0, 3, true), 3);
        due("up from 4", x.next(0, 4, true), 63);
        due("up from 64", x.next(0, 64, true), 64);
        due("up from 65", x.next(0, 65, true), 110);
        due("up from 111", x.next(0, 111, true), NONE);
        due("up from far above", x.next(0, MAX, true), NONE);
        due("down from 2", x.next(0, 2, false), NONE);
        due("down from 3", x.next(0, 3, false), 3);
        due("down from 62", x.next(0, 62, false), 3);
        due("down from 63", x.next(0, 63, false), 63);
        due("down from 100", x.next(0, 100, false), 64);
        due("down from 119", x.next(0, 119, false), 110);
        due("down from far above", x.next(0, MAX, false), 110);
        x.put(0, 119, true);
        due("down from 119, which is in", x.next(0, 119, false), 119);
        due("down from 120", x.next(0, 120, false), 119);
        due("up from 119, which is in", x.next(0, 119, true), 119);
        due("of no rows, up", x.next(1, 0, true), NONE);
        due("of no rows, down", x.next(1, 119, false), NONE);
        index("filter 8", () -> x.next(8, 0, true));
        index("row -1, up", () -> x.next(0, -1, true));
        index("row -1, down", () -> x.next(0, -1, false));
    }

    private static void promise34() {
        startFull(34);
        put(0, 1, 70);
        put(1, 1, 70, 80);
        put(2, 1, 90);
        put(3, 3, 90);
        put(4, 70);
        due("within", x.relation(0, 1), 3);
        due("around", x.relation(1, 0), 1);
        due("common", x.relation(0, 2), 1);
        due("nothing common", x.relation(0, 3), 0);
        due("within by the greater rows", x.relation(4, 0), 3);
        due("itself", x.relation(0, 0), 7);
        due("empty and not", x.relation(7, 0), 2);
        due("not and empty", x.relation(0, 7), 0);
        due("both empty", x.relation(6, 7), 6);
        x.copyOf(5, 1);
        due("equal", x.relation(5, 1), 7);
        index("filter 8", () -> x.relation(8, 0));
        index("other 8", () -> x.relation(0, 8));
        index("other -1", () -> x.relation(0, -1));
    }

    private static void promise35() {
        startFull(35);
        put(0, 1, 2, 3, 70);
        put(1, 2, 3, 4, 71);
        put(2, 3, 4, 5, 70);
        due("three", x.union(0, 1, 2), 7);
        due("two", x.union(0, 1, 1), 6);
        due("one", x.union(2, 2, 2), 4);
        due("with an empty one", x.union(0, 7, 2), 6);
        due("none", x.union(7, 7, 7), 0);
        index("first 8", () -> x.union(8, 0, 0));
        index("second 8", () -> x.union(0, 8, 0));
        index("third 8", () -> x.union(0, 0, 8));
        index("third -1", () -> x.union(0, 0, -1));
    }

    // ---- told from sets

    private static void promise36() {
        startWithRows(36);
        x.contrary(0);
        due("column 0", x.sum(0, 0), 70);
        due("column 1", x.sum(0, 1), -19);
        due("column 2", x.sum(0, 2), 13);
        put(1, 0, 5);
        due("two rows", x.sum(1, 1), -113);
        due("rows without a value", x.sum(1, 2), 0);
        due("no rows", x.sum(2, 0), 0);
        startFull(36);
        x.contrary(0);
        due("many rows", x.sum(0, 0), 1770);
        due("many rows below 0", x.sum(0, 1), -120);
        index("filter 8", () -> x.sum(8, 0));
        index("column 4", () -> x.sum(0, 4));
        index("column -1", () -> x.sum(0, -1));
    }

    private static void promise37() {
        startWithRows(37);
        x.contrary(0);
        int[] found = {-3, 0, 5, 5, 63, NULL, NULL};
        for (int k = 0; k < found.length; k++) {
            due("column 0, " + k, x.least(0, 0, k), found[k]);
        }
        int[] others = {-64, -49, 0, 15, 16, 63};
        for (int k = 0; k < others.length; k++) {
            due("column 1, " + k, x.least(0, 1, k), others[k]);
        }
        put(1, 0, 3);
        due("two rows", x.least(1, 1, 1), 15);
        due("one without a value", x.least(1, 0, 1), NULL);
        due("k -1", x.least(0, 0, -1), NULL);
        due("k far below", x.least(0, 0, MIN), NULL);
        due("k far above", x.least(0, 0, MAX), NULL);
        due("no rows", x.least(2, 0, 0), NULL);
        index("filter 8", () -> x.least(8, 0, 0));
        index("column 4", () -> x.least(0, 4, 0));
        index("column -1, k -1", () -> x.least(0, -1, -1));
    }

    private static void promise38() {
        startWithRows(38);
        x.contrary(0);
        due("of five", x.middle(0, 0), 5);
        due("of six", x.middle(0, 1), 0);
        due("of three", x.middle(0, 2), 7);
        put(1, 0, 1);
        due("of two", x.middle(1, 0), -3);
        due("of none with a value", x.middle(1, 2), NULL);
        due("of no rows", x.middle(2, 0), NULL);
        put(3, 5);
        due("of one", x.middle(3, 1), -49);
        index("filter 8", () -> x.middle(8, 0));
        index("column 4", () -> x.middle(0, 4));
    }

    private static void promise39() {
        startWithRows(39);
        x.contrary(0);
        int[] found = {5, 0, 2, 4, 1, NONE};
        for (int place = 0; place < found.length; place++) {
            due("column 0, " + place, x.top(0, 0, place), found[place]);
        }
        int[] others = {1, 4, 3, 2, 5, 0, NONE};
        for (int place = 0; place < others.length; place++) {
            due("column 1, " + place, x.top(0, 1, place), others[place]);
        }
        int[] alike = {5, 0, 1, 2, 3, NONE};
        for (int place = 0; place < alike.length; place++) {
            due("column 3, " + place, x.top(0, 3, place), alike[place]);
        }
        x.put(0, 0, false);
        due("without row 0", x.top(0, 0, 1), 2);
        due("place -1", x.top(0, 0, -1), NONE);
        due("place far below", x.top(0, 0, MIN), NONE);
        due("place far above", x.top(0, 0, MAX), NONE);
        due("of no rows", x.top(1, 0, 0), NONE);
        index("filter 8", () -> x.top(8, 0, 0));
        index("column 4", () -> x.top(0, 4, 0));
        index("column 4, place -1", () -> x.top(0, 4, -1));
    }

    private static void promise40() {
        startWithRows(40);
        x.contrary(0);
        due("column 0", x.unlike(0, 0), 4);
        due("column 1", x.unlike(0, 1), 6);
        due("column 2", x.unlike(0, 2), 2);
        put(1, 0, 2, 3);
        due("alike and NULL", x.unlike(1, 0), 1);
        due("no rows", x.unlike(2, 0), 0);
        index("filter 8", () -> x.unlike(8, 0));
        index("column 4", () -> x.unlike(0, 4));
    }

    private static void promise41() {
        startJoin(41);
        due("all rows", x.join(0, 0, 1, 0), 6);
        due("the other way", x.join(1, 0, 0, 0), 6);
        due("a row with itself", x.join(0, 0, 0, 0), 6);
        due("within filters", x.join(0, 1, 1, 2), 2);
        due("NULL is not the same", x.join(2, 0, 2, 0), 4);
        due("the outermost values", x.join(3, 0, 3, 0), 13);
        due("no rows", x.join(0, 0, 0, 7), 0);
        startFull(41);
        x.contrary(0);
        due("all with all", x.join(1, 0, 1, 0), 14400);
        index("column 4", () -> x.join(4, 0, 0, 0));
        index("filter 8", () -> x.join(0, 8, 0, 0));
        index("other column 4", () -> x.join(0, 0, 4, 0));
        index("other 8", () -> x.join(0, 0, 0, 8));
    }

    private static void promise42() {
        startWithRows(42);
        x.contrary(0);
        due("column 0", x.rollup(0, 1), 6);
        due("columns 0 and 1", x.rollup(0, 3), 12);
        due("columns 2 and 3", x.rollup(0, 12), 8);
        due("all columns", x.rollup(0, 15), 6 + 6 + 6 + 5 + 1);
        String last = group(23);
        argument("columns 0", () -> x.rollup(0, 0));
        argument("columns 16", () -> x.rollup(0, 16));
        argument("columns -1", () -> x.rollup(0, -1));
        index("filter 8", () -> x.rollup(8, 1));
        index("filter ahead of columns", () -> x.rollup(8, 0));
        dueText("groups stay", group(23), last);
        due("no rows", x.rollup(7, 15), 0);
        index("groups are gone", () -> x.groupAt(0, 0));
    }

    private static void promise42Order() {
        startWithRows(42);
        x.contrary(0);
        String[] two = {"101 101 -1 100: 1", "101 101 -1 101: 1", "101 101 7 0: 2",
            "101 101 7 101: 2", "101 101 100 0: 2", "101 101 100 1: 1", "101 101 100 101: 3",
            "101 101 101 101: 6"};
        due("columns 2 and 3", x.rollup(0, 12), two.length);
        for (int group = 0; group < two.length; group++) {
            dueText("columns 2 and 3, " + group, group(group), two[group]);
        }
        String[] apart = {"-3 101 101 0: 1", "-3 101 101 101: 1", "0 101 101 100: 1",
            "0 101 101 101: 1", "5 101 101 0: 2", "5 101 101 101: 2", "63 101 101 1: 1",
            "63 101 101 101: 1", "100 101 101 0: 1", "100 101 101 101: 1", "101 101 101 101: 6"};
        due("columns 0 and 3", x.rollup(0, 9), apart.length);
        for (int group = 0; group < apart.length; group++) {
            dueText("columns 0 and 3, " + group, group(group), apart[group]);
        }
        startFull(42);
        for (int row = 0; row < 120; row++) {
            x.setValue(row, 0, row % 60);
            x.setValue(row, 1, row / 60);
        }
        x.contrary(0);
        due("the most rows", x.rollup(0, 15), 120 + 120 + 120 + 60 + 1);
        dueText("the last group", group(420), "101 101 101 101: 120");
    }

    private static void promise43() {
        startWithRows(43);
        x.contrary(0);
        x.rollup(0, 2);
        due("value", x.groupAt(0, 1), -64);
        due("ALL", x.groupAt(0, 0), ALL);
        due("rows", x.groupAt(6, 4), 6);
        due("all rows", x.groupAt(6, 1), ALL);
        x.setValue(0, 1, 1);
        x.strike(4);
        x.contrary(0);
        due("groups stay as they were", x.groupAt(0, 1), -64);
        index("group 7", () -> x.groupAt(7, 0));
        index("group -1", () -> x.groupAt(-1, 0));
        index("group far above", () -> x.groupAt(MAX, 0));
        argument("what 5", () -> x.groupAt(0, 5));
        argument("what -1", () -> x.groupAt(0, -1));
        index("group ahead of what", () -> x.groupAt(7, 5));
        x.contrary(0);
        x.rollup(0, 4);
        due("NULL", x.groupAt(1, 2), NULL);
        index("the groups of the latest one", () -> x.groupAt(3, 0));
    }

    // ---- packed sets

    private static void promise44() {
        startFull(44);
        due("none", x.runs(0), 0);
        packedOf(0, 0, 2, 4, 5, 63, 64, 119);
        due("five", x.runs(0), 5);
        x.strike(5);
        due("struck rows stay", x.runs(0), 5);
        x.contraryPacked(1);
        due("one", x.runs(1), 1);
        for (int row = 0; row < 120; row += 2) {
            put(0, row);
        }
        x.pack(3, 0);
        due("sixty", x.runs(3), 60);
        index("packed 4", () -> x.runs(4));
        index("packed -1", () -> x.runs(-1));
    }

    private static void promise45() {
        startFull(45);
        packedOf(0, 0, 2, 3, 4, 62, 63, 64, 65, 66, 119);
        int[] firsts = {0, 2, 62, 119};
        int[] lengths = {1, 3, 5, 1};
        for (int run = 0; run < 4; run++) {
            due("first of " + run, x.runAt(0, run, false), firsts[run]);
            due("length of " + run, x.runAt(0, run, true), lengths[run]);
        }
        x.contraryPacked(1);
        due("all numbers", x.runAt(1, 0, true), 120);
        packedOf(2, 64, 65);
        due("from 64 on", x.runAt(2, 0, false), 64);
        due("from 64 on", x.runAt(2, 0, true), 2);
        packedOf(2, 63, 64);
        due("63 and 64", x.runAt(2, 0, true), 2);
        packedOf(2, 63, 65);
        due("63 without 64", x.runAt(2, 0, true), 1);
        due("65 without 64", x.runAt(2, 1, false), 65);
        index("run 4", () -> x.runAt(0, 4, false));
        index("run -1", () -> x.runAt(0, -1, true));
        index("run 0 of none", () -> x.runAt(3, 0, true));
        index("packed 4", () -> x.runAt(4, 0, false));
    }

    private static void promise46() {
        startFull(46);
        packedOf(0, 0, 63, 119);
        due("0", x.hasPacked(0, 0), true);
        due("1", x.hasPacked(0, 1), false);
        due("63", x.hasPacked(0, 63), true);
        due("64", x.hasPacked(0, 64), false);
        due("119", x.hasPacked(0, 119), true);
        x.contraryPacked(0);
        due("120", x.hasPacked(0, 120), false);
        due("-1", x.hasPacked(0, -1), false);
        due("far above", x.hasPacked(0, MAX), false);
        due("far below", x.hasPacked(0, MIN), false);
        x.strike(5);
        due("a struck row stays", x.hasPacked(0, 5), true);
        index("packed 4", () -> x.hasPacked(4, 0));
        index("packed -1", () -> x.hasPacked(-1, 0));
    }

    // ---- plans

    private static void promise47() {
        start(47);
        due("none", x.conditions(), 0);
        x.addCondition(0, 0, 0);
        x.addCondition(0, 0, 0);
        due("two", x.conditions(), 2);
        x.dropCondition(0);
        due("one", x.conditions(), 1);
        x.undo();
        due("two again", x.conditions(), 2);
    }

    private static void promise48() {
        startWithRows(48);
        x.addCondition(0, 5, 5);
        x.addCondition(1, 3, 0);
        x.addCondition(2, 6, -64);
        x.addCondition(3, 2, 0);
        int[][] found = {{0, 5, 5, 3, 0, 0}, {1, 3, 0, 4, 1, 2}, {2, 6, -64, 3, 0, 1},
            {3, 2, 0, 4, 0, 3}};
        for (int condition = 0; condition < 4; condition++) {
            for (int what = 0; what < 6; what++) {
                due("condition " + condition + ", " + what, x.conditionAt(condition, what),
                        found[condition][what]);
            }
        }
        x.dropCondition(3);
        x.undo();
        x.dropCondition(0);
        due("the place of the first one", x.conditionAt(0, 5), 1);
        due("the place of the second one", x.conditionAt(1, 5), 0);
        due("the place of the third one", x.conditionAt(2, 5), 2);
        index("condition 3", () -> x.conditionAt(3, 0));
        index("condition -1", () -> x.conditionAt(-1, 0));
        argument("what 6", () -> x.conditionAt(0, 6));
        argument("what -1", () -> x.conditionAt(0, -1));
        index("condition ahead of what", () -> x.conditionAt(3, 6));
        startFull(48);
        x.addCondition(0, 5, 31);
        due("digits are the best way", x.conditionAt(0, 4), Bitmapstore.DIGITS);
        x.addCondition(0, 3, 32);
        due("bounds are the best way", x.conditionAt(1, 4), Bitmapstore.BOUNDS);
        x.addCondition(0, 7, 0);
        due("values are the first one of like ways", x.conditionAt(2, 4), Bitmapstore.VALUES);
        x.addCondition(0, 0, 14);
        due("values and digits alike", x.conditionAt(3, 4), Bitmapstore.VALUES);
    }

    private static void promise49() {
        startWithRows(49);
        // in the column 1 are -64, -49, 0, 15, 16 and 63
        int[][] costs = {{3, 2, 14}, {4, 3, 14}, {1, 6, 7}, {3, 3, 15}, {2, 4, 15}, {5, 7, 8},
            {1, 1, 1}, {1, 1, 1}};
        for (int test = 0; test < 8; test++) {
            x.addCondition(1, test, 15);
            for (int way = 0; way < 3; way++) {
                due("test " + test + ", way " + way, x.cost(0, way), costs[test][way]);
            }
            x.dropCondition(0);
        }
        x.addCondition(1, 0, 14);
        index("condition 1", () -> x.cost(1, 0));
        index("condition -1", () -> x.cost(-1, 0));
        argument("way 3", () -> x.cost(0, 3));
        argument("way -1", () -> x.cost(0, -1));
        index("condition ahead of way", () -> x.cost(1, 3));
    }

    private static void promise49Bounds() {
        startWithRows(49);
        x.addCondition(1, 2, 16);
        due("equal to a bound that is a value", x.cost(0, 1), 4);
        x.addCondition(1, 5, 63);
        due("unlike, none between", x.cost(1, 1), 5);
        x.addCondition(1, 1, -64);
        due("the first bound", x.cost(2, 1), 2);
        x.addCondition(1, 4, -1);
        due("no value, none between", x.cost(3, 1), 2);
        x.addRow(0, -50, 0, 0);
        x.addRow(0, -50, 0, 0);
        x.dropCondition(3);
        x.addCondition(1, 5, -49);
        due("like values count once", x.cost(3, 1), 9);
        due("like values count once, by values", x.cost(3, 0), 6);
    }

    private static void promise50() {
        startFull(50);
        due("no conditions", x.planCost(), 0);
        x.addCondition(0, 0, 7);
        due("one condition by values", x.planCost(), 7);
        x.addCondition(0, 6, 0);
        due("two conditions", x.planCost(), 9);
        x.addCondition(0, 5, 31);
        due("one by digits", x.planCost(), 18);
        x.addCondition(0, 3, 32);
        due("one by bounds", x.planCost(), 21);
        x.dropCondition(2);
        due("without the one by digits", x.planCost(), 12);
    }

    // ---- measures

    private static void promise51() {
        startWithRows(51);
        x.contrary(0);
        checks.dueNumber("column 0", x.mean(0, 0), 14.0);
        checks.dueNumber("column 1", x.mean(0, 1), -19.0 / 6.0);
        checks.dueNumber("column 2", x.mean(0, 2), 13.0 / 3.0);
        put(1, 0, 1);
        checks.dueNumber("none with a value", x.mean(1, 2), 0.0);
        checks.dueNumber("no rows", x.mean(2, 0), 0.0);
        index("filter 8", () -> x.mean(8, 0));
        index("column 4", () -> x.mean(0, 4));
    }

    private static void promise52() {
        start(52);
        checks.dueNumber("without rows", x.share(0), 0.0f);
        startWithRows(52);
        checks.dueNumber("no rows of the filter", x.share(0), 0.0f);
        put(0, 3);
        checks.dueNumber("one of six", x.share(0), 1.0f / 6.0f);
        x.contrary(0);
        checks.dueNumber("five of six", x.share(0), 5.0f / 6.0f);
        x.contrary(1);
        checks.dueNumber("all", x.share(1), 1.0f);
        index("filter 8", () -> x.share(8));
        index("filter -1", () -> x.share(-1));
    }

    private static void promise53() {
        start(53);
        due("without rows", x.errors(), 0);
        startWithRows(53);
        due("rows", x.errors(), 0);
        x.setValue(0, 0, -33);
        x.setValue(1, 0, 17);
        x.setValue(2, 1, -1);
        x.strike(5);
        due("after changes", x.errors(), 0);
        x.undo();
        x.undo();
        x.undo();
        due("after undo", x.errors(), 0);
        x.fill(3, 20, 64);
        x.fill(4, 20, 20);
        x.undo();
        due("after fill", x.errors(), 0);
    }
}
