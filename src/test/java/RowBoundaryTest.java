import java.util.NoSuchElementException;

/**
 * The boundary cases of rows and columns: sections 1 and 2 of the document and the promises 1 to 5
 * and 23 to 29. Each part's title tells the section or promise and what it says.
 */
public final class RowBoundaryTest {
    private static final int NULL = Bitmapstore.NULL;
    private static final int NONE = Bitmapstore.NONE;
    private static final int VALUES = Bitmapstore.VALUES;
    private static final int BOUNDS = Bitmapstore.BOUNDS;
    private static final int DIGITS = Bitmapstore.DIGITS;
    private static final int MAX = Integer.MAX_VALUE;
    private static final int MIN = Integer.MIN_VALUE;

    private static final Checks checks = new Checks("RowBoundaryTest");

    public static void main(String[] args) {
        useOfAnObject();
        constants();
        sectionOne();
        keptSets();
        newObject();
        addRow();
        fill();
        setValue();
        strike();
        questionsOfRows();
        valuesOfColumns();
        checks.finish();
    }

    // ---- the object and its constants

    private static void useOfAnObject() {
        checks.start("An object is used for at most 512 calls after it has been made");
        Bitmapstore x = new Bitmapstore();
        for (int call = 1; call <= 510; call++) {
            if (call <= 120) {
                x.addRow(call % 64, -(call % 65), NULL, 0);
            } else {
                x.setValue(call % 120, call % 4, call % 128 - 64);
            }
        }
        checks.due("the 511th call", x.valueAt(30, 2), 510 % 128 - 64);
        checks.due("the 512th call", x.undo(), 7);
        Bitmapstore y = new Bitmapstore();
        for (int call = 1; call <= 511; call++) {
            checks.dueState("refused call", () -> y.undo());
        }
        checks.due("the 512th call behind refused ones", y.addRow(1, 1, 1, 1), 0);
    }

    private static void constants() {
        checks.start("the words on the constants");
        int[] got = {Bitmapstore.NONE, NULL, Bitmapstore.ALL, VALUES, BOUNDS, DIGITS,
            Bitmapstore.AND, Bitmapstore.OR, Bitmapstore.XOR, Bitmapstore.AND_NOT};
        int[] want = {-1, 100, 101, 0, 1, 2, 0, 1, 2, 3};
        for (int i = 0; i < got.length; i++) {
            checks.due("constant " + i, got[i], want[i]);
        }
    }

    // ---- section 1

    private static void sectionOne() {
        columnsZeroToThree();
        rowNumbers();
        valuesOfARow();
        leastNumber();
        digits();
    }

    private static void columnsZeroToThree() {
        checks.start("1: There are the columns 0 to 3");
        Bitmapstore x = Stores.ofRows(new int[][] {{10, 11, 12, 13}});
        for (int column = 0; column < 4; column++) {
            int one = column;
            checks.due("column " + column, x.valueAt(0, column), 10 + column);
            checks.due("only this column changes", x.setValue(0, column, -column), 10 + column);
            checks.dueIndex("the column behind", () -> x.valueAt(0, 4 + one));
            checks.dueIndex("the column ahead", () -> x.valueAt(0, -1 - one));
        }
        checks.dueText("all columns", Stores.row(x, 0), "0 -1 -2 -3");
    }

    private static void rowNumbers() {
        checks.start("1: A row has a number, 0 to 119");
        Bitmapstore x = Stores.full();
        checks.dueText("the first row", Stores.row(x, 0), "-64 63 100 0");
        checks.dueText("the last row", Stores.row(x, 119), "55 -56 100 1");
        checks.dueText("ahead of the last one", Stores.row(x, 118), "54 -55 100 0");
        checks.dueIndex("row 120", () -> x.valueAt(120, 0));
        checks.dueIndex("row -1", () -> x.valueAt(-1, 0));
        checks.dueIndex("row 128", () -> x.valueAt(128, 0));
        x.strike(0);
        x.strike(119);
        checks.dueIndex("row 0 is struck", () -> x.valueAt(0, 0));
        checks.dueIndex("row 119 is struck", () -> x.valueAt(119, 0));
        checks.due("rows", x.rows(), 118);
    }

    private static void valuesOfARow() {
        checks.start("1: in each column a value from -64 to 63, or none (NULL)");
        for (int column = 0; column < 4; column++) {
            for (int value : new int[] {-64, -63, -1, 0, 1, 62, 63, NULL}) {
                int[] cells = {1, 2, 3, 4};
                cells[column] = value;
                Bitmapstore x = Stores.ofRows(cells);
                checks.due(value + " in the column " + column, x.valueAt(0, column), value);
                x.setValue(0, column, 5);
                x.setValue(0, column, value);
                checks.due("set to " + value, x.valueAt(0, column), value);
            }
        }
        checks.start("1: There are no rows at first");
        checks.due("rows", new Bitmapstore().rows(), 0);
        checks.dueIndex("row 0", () -> new Bitmapstore().valueAt(0, 0));
    }

    private static void leastNumber() {
        checks.start("1: A new row gets the least number that no row has");
        checks.due("without rows", new Bitmapstore().addRow(0, 0, 0, 0), 0);
        Bitmapstore x = Stores.full();
        int[] struck = {119, 64, 63, 0, 62};
        for (int row : struck) {
            x.strike(row);
        }
        for (int row : new int[] {0, 62, 63, 64, 119}) {
            checks.due("the least one", x.addRow(1, 1, 1, 1), row);
        }
        x.strike(7);
        x.strike(5);
        x.addRow(2, 2, 2, 2);
        x.strike(6);
        checks.due("ahead of a gap", x.addRow(2, 2, 2, 2), 6);
        checks.due("the gap", x.addRow(2, 2, 2, 2), 7);
        x.undo();
        x.undo();
        checks.due("after undo", x.addRow(2, 2, 2, 2), 6);
        Bitmapstore one = Stores.ofColumn(4);
        one.strike(0);
        checks.due("when the only row is struck", one.addRow(0, 0, 0, 0), 0);
        checks.due("behind it", one.addRow(0, 0, 0, 0), 1);
    }

    private static void digits() {
        checks.start("1: digit k counts 2 to the power of k, but digit 6 counts -64");
        int[] weights = {1, 2, 4, 8, 16, 32, -64};
        for (int value = -64; value <= 63; value++) {
            Bitmapstore x = Stores.ofColumn(value);
            int total = 0;
            for (int digit = 0; digit < 7; digit++) {
                int many = x.kept(0, DIGITS, digit);
                checks.due("a digit is 0 or 1", many == 0 || many == 1, true);
                total += many * weights[digit];
            }
            checks.due("the digits of " + value, total, value);
        }
    }

    // ---- section 2

    private static void keptSets() {
        keptByValues();
        keptByBounds();
        keptByDigits();
        keptOutOfRange();
    }

    private static void keptByValues() {
        checks.start("2: The values of a column are those that some row has");
        Bitmapstore x = Stores.ofColumn(-64, -64, 63, NULL, 0);
        checks.due("values", x.values(0), 3);
        checks.due("-64", x.kept(0, VALUES, -64), 2);
        checks.due("63", x.kept(0, VALUES, 63), 1);
        checks.due("0, not NULL", x.kept(0, VALUES, 0), 1);
        x.strike(0);
        checks.due("-64 is left", x.values(0), 3);
        x.setValue(1, 0, NULL);
        checks.due("-64 is gone", x.values(0), 2);
        checks.due("no row has -64", x.kept(0, VALUES, -64), 0);
        x.setValue(4, 0, 63);
        checks.due("0 is gone", x.values(0), 1);
        x.strike(2);
        x.strike(4);
        checks.due("no values", x.values(0), 0);
        x.undo();
        checks.due("63 is back", x.values(0), 1);
        checks.due("63 is back for one row", x.kept(0, VALUES, 63), 1);
        checks.start("29: 0 for a value that no row has");
        for (int value = -64; value <= 63; value++) {
            checks.due("value " + value, x.kept(0, VALUES, value), value == 63 ? 1 : 0);
        }
    }

    private static void keptByBounds() {
        checks.start("2: for each of the eight bounds the rows whose value is less than the bound");
        for (int bound = 0; bound < 8; bound++) {
            int border = -64 + 16 * bound;
            Bitmapstore x = Stores.ofColumn(border, Math.max(border - 1, -64), border + 1, NULL);
            checks.due("bound " + bound, x.kept(0, BOUNDS, bound), bound == 0 ? 0 : 1);
            for (int higher = bound + 1; higher < 8; higher++) {
                checks.due("bound " + higher + " is higher", x.kept(0, BOUNDS, higher), 3);
            }
            for (int lower = 0; lower < bound; lower++) {
                checks.due("bound " + lower + " is lower", x.kept(0, BOUNDS, lower), 0);
            }
        }
        Bitmapstore x = Stores.ofColumn(63, 48, 47, -64);
        checks.due("less than 48", x.kept(0, BOUNDS, 7), 2);
        checks.due("less than -64", x.kept(0, BOUNDS, 0), 0);
        x.setValue(2, 0, 48);
        checks.due("less than 48, when 47 becomes 48", x.kept(0, BOUNDS, 7), 1);
        x.setValue(3, 0, NULL);
        checks.due("less than 48, when -64 becomes NULL", x.kept(0, BOUNDS, 7), 0);
    }

    private static void keptByDigits() {
        checks.start("2: the set of the rows that have a value");
        Bitmapstore x = Stores.ofColumn(0, NULL, -64, 63, -1);
        checks.due("with a value", x.kept(0, DIGITS, 7), 4);
        checks.due("digit 6: -64 and -1", x.kept(0, DIGITS, 6), 2);
        checks.due("digit 5: 63 and -1", x.kept(0, DIGITS, 5), 2);
        checks.due("digit 0: 63 and -1", x.kept(0, DIGITS, 0), 2);
        x.setValue(0, 0, NULL);
        checks.due("0 becomes NULL", x.kept(0, DIGITS, 7), 3);
        x.setValue(1, 0, 0);
        checks.due("NULL becomes 0", x.kept(0, DIGITS, 7), 4);
        x.strike(4);
        checks.due("-1 is struck", x.kept(0, DIGITS, 7), 3);
        checks.due("-1 is struck, digit 6", x.kept(0, DIGITS, 6), 1);
        checks.due("a column without values", x.kept(1, DIGITS, 7), 0);
        Bitmapstore full = Stores.full();
        checks.due("all rows", full.kept(0, DIGITS, 7), 120);
        checks.due("no row", full.kept(2, DIGITS, 7), 0);
        checks.due("64 rows below 0", full.kept(0, DIGITS, 6), 64);
    }

    private static void keptOutOfRange() {
        checks.start("29: a value from -64 to 63; the number of a bound, 0 to 7; a digit, 0 to 6, or 7");
        Bitmapstore x = Stores.ofColumn(-64, 63, 0);
        for (int way = VALUES; way <= DIGITS; way++) {
            int one = way;
            int low = way == VALUES ? -64 : 0;
            int high = way == VALUES ? 63 : 7;
            checks.due("the least one", x.kept(0, way, low), 1 - way % 2);
            checks.due("the greatest one", x.kept(0, way, high), way == VALUES ? 1 : way + 1);
            for (int which : new int[] {low - 1, high + 1, MIN, MAX, NULL}) {
                checks.dueArgument("way " + way + ", " + which, () -> x.kept(0, one, which));
            }
        }
        checks.dueArgument("way 3", () -> x.kept(0, 3, 0));
        checks.dueArgument("way -1", () -> x.kept(0, -1, 0));
        checks.dueIndex("column 4 ahead of way", () -> x.kept(4, 3, 0));
        checks.dueIndex("column -1 ahead of which", () -> x.kept(-1, 0, 64));
    }

    // ---- promises 1 to 5

    private static void newObject() {
        checks.start("promise 1: Creates an empty store");
        Bitmapstore x = new Bitmapstore();
        checks.dueText("state", Stores.state(x), "0 rows\n" + "filter \n".repeat(8)
                + "packed \n".repeat(4));
        checks.dueText("sets", Stores.kept(x), ("0 ".repeat(16) + "\n").repeat(4));
        checks.dueText("groups", Stores.groups(x), "");
        checks.dueText("changes", Stores.history(x), "");
        checks.due("planCost", x.planCost(), 0);
        checks.due("errors", x.errors(), 0);
        for (int column = 0; column < 4; column++) {
            int one = column;
            checks.dueThrow("outermost", NoSuchElementException.class, () -> x.outermost(one, true));
            checks.due("beside", x.beside(column, 0, true), NULL);
        }
        x.fill(1, 20, 64);
        x.contrary(0);
        x.pack(0, 0);
        x.addCondition(0, 0, 0);
        x.rollup(0, 15);
        Bitmapstore y = new Bitmapstore();
        checks.dueText("a second store is empty too", Stores.everything(y), "0 rows\n"
                + "filter \n".repeat(8) + "packed \n".repeat(4) + ("0 ".repeat(16) + "\n").repeat(4)
                + "\n");
    }

    private static void addRow() {
        checks.start("promise 2: IllegalStateException if there are 120 rows");
        Bitmapstore x = new Bitmapstore();
        for (int row = 0; row < 120; row++) {
            checks.due("with " + row + " rows", x.addRow(NULL, NULL, NULL, NULL), row);
        }
        checks.dueState("with 120 rows", () -> x.addRow(NULL, NULL, NULL, NULL));
        checks.due("rows", x.rows(), 120);
        x.strike(119);
        checks.due("with 119 rows", x.addRow(1, 2, 3, 4), 119);
        checks.dueState("with 120 rows again", () -> x.addRow(1, 2, 3, 4));
        x.undo();
        checks.due("with 119 rows after undo", x.addRow(5, 6, 7, 8), 119);
        checks.dueText("the last row", Stores.row(x, 119), "5 6 7 8");
        checks.start("promise 2: its value in the column, -64 to 63, or NULL");
        Bitmapstore y = new Bitmapstore();
        for (int column = 0; column < 4; column++) {
            for (int value : new int[] {-65, 64, 99, 101, -1000, 128, 164, -100, MIN, MAX}) {
                int[] cells = {NULL, 63, -64, 0};
                cells[column] = value;
                checks.dueArgument(value + " in the column " + column,
                        () -> y.addRow(cells[0], cells[1], cells[2], cells[3]));
            }
        }
        checks.due("no row of a refused call", y.rows(), 0);
        checks.due("the first row", y.addRow(-64, 63, NULL, 0), 0);
    }

    private static void fill() {
        fillRanges();
        fillUpToTheLastRow();
        fillDraws();
    }

    private static void fillRanges() {
        checks.start("promise 3: many: 1 to 20, spread: 1 to 64");
        for (int many = 1; many <= 20; many++) {
            checks.due("many " + many, new Bitmapstore().fill(3, many, 64), many);
        }
        Bitmapstore x = new Bitmapstore();
        for (int many : new int[] {0, -1, 21, 120, MIN, MAX}) {
            checks.dueArgument("many " + many, () -> x.fill(3, many, 5));
        }
        for (int spread : new int[] {0, -1, 65, 128, MIN, MAX, MIN + 1}) {
            checks.dueArgument("spread " + spread, () -> x.fill(3, 5, spread));
        }
        checks.due("no rows of refused calls", x.rows(), 0);
        for (int spread : new int[] {1, 64}) {
            Bitmapstore y = new Bitmapstore();
            for (int seed = 0; seed < 6; seed++) {
                y.fill(seed, 20, spread);
            }
            checks.due("the least value, spread " + spread, y.outermost(0, false), -spread);
            checks.due("the greatest value, spread " + spread, y.outermost(0, true), spread - 1);
        }
    }

    private static void fillUpToTheLastRow() {
        checks.start("promise 3: IllegalStateException if there would be more than 120 rows");
        for (int free = 0; free <= 20; free++) {
            Bitmapstore x = Stores.full();
            for (int row = 0; row < free; row++) {
                x.strike(3 * row + 2);
            }
            int there = 120 - free;
            for (int many = free + 1; many <= 20; many++) {
                int tooMany = many;
                checks.dueState(many + " of " + free, () -> x.fill(1, tooMany, 5));
            }
            checks.due("no rows of refused calls", x.rows(), there);
            if (free > 0) {
                checks.due(free + " of " + free, x.fill(1, free, 5), 120);
                checks.due("rows", x.rows(), 120);
            }
        }
        checks.start("promise 3: a new row gets the least number that no row has");
        Bitmapstore x = Stores.ofColumn(1, 1, 1, 1, 1);
        x.strike(3);
        x.strike(0);
        checks.due("three rows", x.fill(1, 3, 10), 6);
        Bitmapstore alone = new Bitmapstore();
        alone.fill(1, 3, 10);
        int[] rows = {0, 3, 5};
        for (int i = 0; i < 3; i++) {
            checks.dueText("row " + i, Stores.row(x, rows[i]), Stores.row(alone, i));
        }
    }

    /** The draws by longs, which do not go round here: below 2 to the power of 63. */
    private static final class LongDraws {
        private long x;

        LongDraws(int seed) {
            x = Math.floorMod((long) seed, 1L << 32);
        }

        int draw(int n) {
            x = (x * 1103515245L + 12345L) % (1L << 32);
            return (int) (x / 65536 % n);
        }
    }

    private static void fillDraws() {
        checks.start("5: x becomes x * 1103515245 + 12345 (an int that goes round)");
        for (int seed : new int[] {0, 1, -1, 2, MAX, MIN, MAX - 1, MIN + 1, 65536, -65536, 1 << 30}) {
            for (int spread : new int[] {1, 2, 33, 63, 64}) {
                Bitmapstore x = new Bitmapstore();
                x.fill(seed, 20, spread);
                LongDraws draws = new LongDraws(seed);
                for (int row = 0; row < 20; row++) {
                    for (int column = 0; column < 4; column++) {
                        int want = draws.draw(8) == 0 ? NULL : draws.draw(2 * spread) - spread;
                        checks.due("seed " + seed + ", row " + row, x.valueAt(row, column), want);
                    }
                }
            }
        }
        checks.start("5: it is the seed at first");
        Bitmapstore x = new Bitmapstore();
        x.fill(77, 1, 64);
        x.fill(77, 1, 64);
        checks.dueText("like seeds, like rows", Stores.row(x, 1), Stores.row(x, 0));
    }

    private static void setValue() {
        checks.start("promise 4: a value from -64 to 63, or NULL; a row and a column that are there");
        Bitmapstore x = Stores.full();
        int[] row = {0, 63, 64, 119};
        for (int one : row) {
            checks.due("what it was", x.setValue(one, 0, 63), one - 64);
            checks.due("what it was then", x.setValue(one, 0, -64), 63);
            checks.due("from the least value to NULL", x.setValue(one, 0, NULL), -64);
            checks.due("from NULL to NULL", x.setValue(one, 0, NULL), NULL);
            checks.due("from NULL", x.setValue(one, 0, 0), NULL);
            checks.due("what it is", x.valueAt(one, 0), 0);
        }
        for (int value : new int[] {-65, 64, 99, 101, MIN, MAX}) {
            checks.dueArgument("value " + value, () -> x.setValue(119, 3, value));
        }
        checks.due("refused values are not kept", x.valueAt(119, 3), 1);
        x.strike(119);
        checks.dueIndex("a struck row", () -> x.setValue(119, 0, 0));
        checks.dueIndex("row ahead of value", () -> x.setValue(119, 0, 64));
        checks.dueIndex("row and column ahead of value", () -> x.setValue(120, 4, 64));
        checks.dueIndex("column ahead of value", () -> x.setValue(0, -1, 101));
        checks.start("7: are changes, even if nothing is different afterwards");
        x.setValue(1, 1, 9);
        String ahead = Stores.state(x);
        x.setValue(1, 1, 9);
        x.undo();
        checks.dueText("to what it was, undone", Stores.state(x), ahead);
        x.undo();
        checks.due("the change ahead of it, undone", x.valueAt(1, 1), 62);
    }

    private static void strike() {
        checks.start("promise 5: Returns how many filters it was in");
        Bitmapstore x = Stores.full();
        checks.due("in no filter", x.strike(0), 0);
        for (int filter = 0; filter < 8; filter++) {
            x.contrary(filter);
        }
        checks.due("in all filters", x.strike(119), 8);
        x.put(0, 63, false);
        x.put(7, 63, false);
        checks.due("in six filters", x.strike(63), 6);
        for (int filter = 0; filter < 8; filter++) {
            checks.dueText("3: a row that is struck leaves all of them",
                    Stores.filter(x, filter), "1-62 64-118");
        }
        checks.dueIndex("a struck row", () -> x.strike(119));
        checks.dueIndex("a struck row", () -> x.strike(0));
        checks.start("3: A new row is in none");
        checks.due("it gets the number of a struck one", x.addRow(1, 1, 1, 1), 0);
        checks.due("the next number", x.addRow(1, 1, 1, 1), 63);
        for (int filter = 0; filter < 8; filter++) {
            checks.dueText("filter " + filter, Stores.filter(x, filter), "1-62 64-118");
        }
        Bitmapstore one = Stores.ofColumn(5);
        one.contrary(2);
        checks.due("the only row", one.strike(0), 1);
        checks.due("rows", one.rows(), 0);
        checks.due("its values are gone", one.values(0), 0);
        checks.dueIndex("of no rows", () -> one.strike(0));
        one.undo();
        checks.dueText("undone", Stores.filter(one, 2), "0");
        checks.due("undone", one.kept(0, VALUES, 5), 1);
    }

    // ---- promises 23 to 28

    private static void questionsOfRows() {
        checks.start("promise 23: how many there are");
        Bitmapstore x = Stores.full();
        checks.due("the most", x.rows(), 120);
        x.strike(64);
        checks.due("one less", x.rows(), 119);
        checks.start("promise 24: the least row that is not less than a number; NONE without one");
        checks.due("without rows", new Bitmapstore().nextRow(0), NONE);
        checks.due("without rows, the last number", new Bitmapstore().nextRow(119), NONE);
        checks.due("from a row", x.nextRow(63), 63);
        checks.due("from a struck row", x.nextRow(64), 65);
        checks.due("from 0", x.nextRow(0), 0);
        checks.due("from the last row", x.nextRow(119), 119);
        for (int number : new int[] {120, 121, 127, 128, 192, 1 << 30, MAX}) {
            checks.due("from " + number, x.nextRow(number), NONE);
        }
        x.strike(119);
        checks.due("from the last number, struck", x.nextRow(119), NONE);
        x.strike(0);
        checks.due("from 0, struck", x.nextRow(0), 1);
        checks.start("promise 24: IndexOutOfBoundsException if row is below 0");
        for (int number : new int[] {-1, -2, -64, MIN, MIN + 1}) {
            checks.dueIndex("from " + number, () -> x.nextRow(number));
            checks.dueIndex("without rows", () -> new Bitmapstore().nextRow(number));
        }
        checks.start("promise 25: a row and a column that are there");
        checks.due("the last row", Stores.full().valueAt(119, 3), 1);
        checks.due("NULL", x.valueAt(118, 2), NULL);
        for (int row : new int[] {-1, 0, 64, 119, 120, MIN, MAX}) {
            checks.dueIndex("row " + row, () -> x.valueAt(row, 0));
        }
        for (int column : new int[] {-1, 4, MIN, MAX}) {
            checks.dueIndex("column " + column, () -> x.valueAt(1, column));
        }
    }

    private static void valuesOfColumns() {
        checks.start("promise 26: how many unlike ones there are");
        Bitmapstore x = Stores.full();
        checks.due("all unlike", x.values(0), 120);
        checks.due("none", x.values(2), 0);
        checks.due("two", x.values(3), 2);
        checks.due("the outermost ones and 0", Stores.ofColumn(-64, 63, 0, NULL).values(0), 3);
        checks.due("without rows", new Bitmapstore().values(3), 0);
        outermost();
        beside();
    }

    private static void outermost() {
        checks.start("promise 27: NoSuchElementException if the column has no values");
        Bitmapstore x = Stores.ofColumn(NULL, NULL);
        checks.dueThrow("the least one", NoSuchElementException.class, () -> x.outermost(0, false));
        checks.dueThrow("the greatest", NoSuchElementException.class, () -> x.outermost(0, true));
        for (int value : new int[] {-64, -1, 0, 63}) {
            x.setValue(1, 0, value);
            checks.due("the least of one", x.outermost(0, false), value);
            checks.due("the greatest of one", x.outermost(0, true), value);
        }
        x.setValue(0, 0, -64);
        checks.due("the least one", x.outermost(0, false), -64);
        checks.due("the greatest one", x.outermost(0, true), 63);
        x.setValue(0, 0, NULL);
        x.strike(1);
        checks.dueThrow("the last value is struck", NoSuchElementException.class,
                () -> x.outermost(0, true));
        checks.dueThrow("another column", NoSuchElementException.class, () -> x.outermost(3, true));
        checks.dueIndex("column 4", () -> x.outermost(4, true));
        checks.dueIndex("column -1", () -> x.outermost(-1, false));
    }

    private static void beside() {
        checks.start("promise 28: any number; NULL without one");
        Bitmapstore x = Stores.ofColumn(-64, 0, 63, NULL);
        int[] numbers = {MIN, MIN + 1, -65, -64, -63, -1, 0, 1, 62, 63, 64, NULL, 101, MAX - 1, MAX};
        int[] above = {-64, -64, -64, 0, 0, 0, 63, 63, 63, NULL, NULL, NULL, NULL, NULL, NULL};
        int[] below = {NULL, NULL, NULL, NULL, -64, -64, -64, 0, 0, 0, 63, 63, 63, 63, 63};
        for (int i = 0; i < numbers.length; i++) {
            checks.due("above " + numbers[i], x.beside(0, numbers[i], true), above[i]);
            checks.due("below " + numbers[i], x.beside(0, numbers[i], false), below[i]);
            checks.due("above, of no values", x.beside(1, numbers[i], true), NULL);
            checks.due("below, of no values", x.beside(1, numbers[i], false), NULL);
        }
        checks.dueIndex("column 4, far above", () -> x.beside(4, MAX, true));
        checks.dueIndex("column -1, far below", () -> x.beside(-1, MIN, false));
    }
}
