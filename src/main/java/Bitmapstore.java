import java.util.NoSuchElementException;

/**
 * A store of rows whose columns are kept as sets of rows, three ways alike: by values, by bounds
 * and by binary digits. All sets are made by the constructor and used again, so no call makes an
 * object but for the exceptions.
 */
public final class Bitmapstore {
    public static final int NONE = -1;
    public static final int NULL = 100;
    public static final int ALL = 101;
    public static final int VALUES = 0, BOUNDS = 1, DIGITS = 2;
    public static final int AND = 0, OR = 1, XOR = 2, AND_NOT = 3;

    private static final int ROW_LIMIT = 120;
    private static final int COLUMN_LIMIT = 4;
    private static final int FILTER_LIMIT = 8;
    private static final int PACKED_LIMIT = 4;
    private static final int CONDITION_LIMIT = 4;
    private static final int UNDO_LIMIT = 8;
    private static final int FILL_LIMIT = 20;
    private static final int SPREAD_LIMIT = 64;

    private static final int LEAST_VALUE = -64;
    private static final int GREATEST_VALUE = 63;
    private static final int VALUE_LIMIT = 128;
    private static final int BOUND_LIMIT = 8;
    private static final int BOUND_STEP = 16;
    private static final int DIGIT_LIMIT = 7;
    private static final int SIGN_DIGIT = 6;

    private static final int LESS = 0;
    private static final int LESS_OR_EQUAL = 1;
    private static final int EQUAL = 2;
    private static final int GREATER_OR_EQUAL = 3;
    private static final int GREATER = 4;
    private static final int UNLIKE = 5;
    private static final int WITHOUT_VALUE = 6;
    private static final int WITH_VALUE = 7;

    private static final int WHAT_COLUMN = 0;
    private static final int WHAT_TEST = 1;
    private static final int WHAT_NUMBER = 2;
    private static final int WHAT_ROWS = 3;
    private static final int WHAT_BEST_WAY = 4;
    private static final int WHAT_PLACE = 5;

    /** The numbers that errors() looks at. */
    private static final int[] LOOKED_AT = {-64, -33, -1, 0, 17, 63};

    private final State now = new State();
    private final History history = new History();
    private final Column[] columns = new Column[COLUMN_LIMIT];
    private final Groups groups = new Groups();
    private final Draws draws = new Draws();
    private final int[] satisfying = new int[CONDITION_LIMIT];
    private final RowSet scratch = new RowSet();
    private final RowSet told = new RowSet();
    private final RowSet seenLess = new RowSet();
    private final RowSet seenEqual = new RowSet();
    private final RowSet seenGreater = new RowSet();

    public Bitmapstore() {
        for (int column = 0; column < COLUMN_LIMIT; column++) {
            columns[column] = new Column();
        }
    }

    // ---- Changes: rows

    public int addRow(int first, int second, int third, int fourth)
            throws IllegalArgumentException, IllegalStateException {
        needCell(first);
        needCell(second);
        needCell(third);
        needCell(fourth);
        needFreeRows(1);
        history.remember(now);
        int row = newRow();
        setCell(row, 0, first);
        setCell(row, 1, second);
        setCell(row, 2, third);
        setCell(row, 3, fourth);
        return row;
    }

    public int fill(int seed, int many, int spread)
            throws IllegalArgumentException, IllegalStateException {
        needArgument(many, 1, FILL_LIMIT);
        needArgument(spread, 1, SPREAD_LIMIT);
        needFreeRows(many);
        history.remember(now);
        draws.start(seed);
        for (int i = 0; i < many; i++) {
            int row = newRow();
            for (int column = 0; column < COLUMN_LIMIT; column++) {
                if (draws.draw(8) != 0) {
                    setCell(row, column, draws.draw(2 * spread) - spread);
                }
            }
        }
        return now.present.size();
    }

    public int setValue(int row, int column, int value)
            throws IndexOutOfBoundsException, IllegalArgumentException {
        needRow(row);
        needColumn(column);
        needCell(value);
        history.remember(now);
        int earlier = now.cellAt(row, column);
        setCell(row, column, value);
        return earlier;
    }

    public int strike(int row) throws IndexOutOfBoundsException {
        needRow(row);
        history.remember(now);
        for (int column = 0; column < COLUMN_LIMIT; column++) {
            setCell(row, column, NULL);
        }
        now.present.mark(row, false);
        int left = 0;
        for (int filter = 0; filter < FILTER_LIMIT; filter++) {
            if (now.filters[filter].contains(row)) {
                now.filters[filter].mark(row, false);
                left++;
            }
        }
        return left;
    }

    // ---- Changes: filters

    public int select(int filter, int column, int test, int number, int way)
            throws IndexOutOfBoundsException, IllegalArgumentException {
        needFilter(filter);
        needColumn(column);
        needArgument(test, LESS, WITH_VALUE);
        needValue(number);
        needArgument(way, VALUES, DIGITS);
        history.remember(now);
        columns[column].tell(test, number, way, now.present, now.filters[filter]);
        return now.filters[filter].size();
    }

    public int between(int filter, int column, int low, int high)
            throws IndexOutOfBoundsException, IllegalArgumentException {
        needFilter(filter);
        needColumn(column);
        needValue(low);
        needValue(high);
        history.remember(now);
        now.filters[filter].clear();
        columns[column].uniteValues(low, high, now.filters[filter]);
        return now.filters[filter].size();
    }

    public int compare(int filter, int column, int test, int other)
            throws IndexOutOfBoundsException, IllegalArgumentException {
        needFilter(filter);
        needColumn(column);
        needColumn(other);
        needArgument(test, LESS, UNLIKE);
        history.remember(now);
        columns[column].tellAgainst(columns[other], test, now.filters[filter]);
        return now.filters[filter].size();
    }

    public int combine(int filter, int operation, int other)
            throws IndexOutOfBoundsException, IllegalArgumentException {
        needFilter(filter);
        needFilter(other);
        needArgument(operation, AND, AND_NOT);
        history.remember(now);
        now.filters[filter].operate(operation, now.filters[other]);
        return now.filters[filter].size();
    }

    public int contrary(int filter) throws IndexOutOfBoundsException {
        needFilter(filter);
        history.remember(now);
        scratch.setTo(now.present);
        scratch.leaveOut(now.filters[filter]);
        now.filters[filter].setTo(scratch);
        return scratch.size();
    }

    public int copyOf(int filter, int other) throws IndexOutOfBoundsException {
        needFilter(filter);
        needFilter(other);
        history.remember(now);
        now.filters[filter].setTo(now.filters[other]);
        return now.filters[filter].size();
    }

    public boolean put(int filter, int row, boolean isIn) throws IndexOutOfBoundsException {
        needFilter(filter);
        needRow(row);
        history.remember(now);
        boolean wasIn = now.filters[filter].contains(row);
        now.filters[filter].mark(row, isIn);
        return wasIn;
    }

    public int sample(int filter, int seed, int many)
            throws IndexOutOfBoundsException, IllegalArgumentException {
        needFilter(filter);
        needArgument(many, 0, ROW_LIMIT);
        history.remember(now);
        RowSet left = now.filters[filter];
        scratch.clear();
        draws.start(seed);
        for (int i = 0; i < many && !left.isEmpty(); i++) {
            int row = left.numberAt(draws.draw(left.size()));
            left.mark(row, false);
            scratch.mark(row, true);
        }
        left.setTo(scratch);
        return scratch.size();
    }

    public int partners(int into, int column, int filter, int otherColumn, int other)
            throws IndexOutOfBoundsException {
        needFilter(into);
        needJoin(column, filter, otherColumn, other);
        history.remember(now);
        columns[column].tellPartners(now.filters[filter], columns[otherColumn],
                now.filters[other], scratch);
        now.filters[into].setTo(scratch);
        return scratch.size();
    }

    public int runPlan(int filter) throws IndexOutOfBoundsException {
        needFilter(filter);
        history.remember(now);
        countSatisfying();
        scratch.setTo(now.present);
        for (int place = 0; place < now.conditionCount; place++) {
            for (int condition = 0; condition < now.conditionCount; condition++) {
                if (placeOf(condition) == place) {
                    tellCondition(now.conditions[condition]);
                    scratch.keep(told);
                }
            }
        }
        now.filters[filter].setTo(scratch);
        return scratch.size();
    }

    public int unpack(int filter, int packed) throws IndexOutOfBoundsException {
        needFilter(filter);
        needPacked(packed);
        history.remember(now);
        now.filters[filter].setTo(now.packed[packed]);
        now.filters[filter].keep(now.present);
        return now.filters[filter].size();
    }

    // ---- Changes: packed sets, conditions

    public int pack(int packed, int filter) throws IndexOutOfBoundsException {
        needPacked(packed);
        needFilter(filter);
        history.remember(now);
        now.packed[packed].setTo(now.filters[filter]);
        return runsOf(packed);
    }

    public int combinePacked(int packed, int operation, int other)
            throws IndexOutOfBoundsException, IllegalArgumentException {
        needPacked(packed);
        needPacked(other);
        needArgument(operation, AND, AND_NOT);
        history.remember(now);
        now.packed[packed].operate(operation, now.packed[other]);
        return runsOf(packed);
    }

    public int contraryPacked(int packed) throws IndexOutOfBoundsException {
        needPacked(packed);
        history.remember(now);
        scratch.setToAll();
        scratch.leaveOut(now.packed[packed]);
        now.packed[packed].setTo(scratch);
        return runsOf(packed);
    }

    public int addCondition(int column, int test, int number)
            throws IndexOutOfBoundsException, IllegalArgumentException, IllegalStateException {
        needColumn(column);
        needArgument(test, LESS, WITH_VALUE);
        needValue(number);
        needFreeCondition();
        history.remember(now);
        int condition = now.conditionCount;
        now.conditions[condition].ask(column, test, number);
        now.conditionCount++;
        return condition;
    }

    public int dropCondition(int condition) throws IndexOutOfBoundsException {
        needCondition(condition);
        history.remember(now);
        for (int behind = condition + 1; behind < now.conditionCount; behind++) {
            now.conditions[behind - 1].setTo(now.conditions[behind]);
        }
        now.conditionCount--;
        return now.conditionCount;
    }

    public int undo() throws IllegalStateException {
        needChange();
        bringBack(history.takeLatest());
        return history.size();
    }

    // ---- rows and columns

    public int rows() {
        return now.present.size();
    }

    public int nextRow(int row) throws IndexOutOfBoundsException {
        needNotBelowZero(row);
        return now.present.firstFrom(row);
    }

    public int valueAt(int row, int column) throws IndexOutOfBoundsException {
        needRow(row);
        needColumn(column);
        return now.cellAt(row, column);
    }

    public int values(int column) throws IndexOutOfBoundsException {
        needColumn(column);
        return columns[column].valuesIn(LEAST_VALUE, GREATEST_VALUE);
    }

    public int outermost(int column, boolean isGreatest)
            throws IndexOutOfBoundsException, NoSuchElementException {
        needColumn(column);
        int value = isGreatest
                ? columns[column].valueBelow(GREATEST_VALUE + 1)
                : columns[column].valueAbove(LEAST_VALUE - 1);
        if (value == NULL) {
            throw new NoSuchElementException("the column has no values");
        }
        return value;
    }

    public int beside(int column, int number, boolean isAbove) throws IndexOutOfBoundsException {
        needColumn(column);
        return isAbove ? columns[column].valueAbove(number) : columns[column].valueBelow(number);
    }

    public int kept(int column, int way, int which)
            throws IndexOutOfBoundsException, IllegalArgumentException {
        needColumn(column);
        needArgument(way, VALUES, DIGITS);
        if (way == VALUES) {
            needValue(which);
            return columns[column].ofValue(which).size();
        }
        if (way == BOUNDS) {
            needArgument(which, 0, BOUND_LIMIT - 1);
            return columns[column].belowBounds[which].size();
        }
        needArgument(which, 0, DIGIT_LIMIT);
        return which < DIGIT_LIMIT
                ? columns[column].ofDigits[which].size()
                : columns[column].known.size();
    }

    // ---- filters

    public int count(int filter) throws IndexOutOfBoundsException {
        needFilter(filter);
        return now.filters[filter].size();
    }

    public int countIn(int filter, int from, int to) throws IndexOutOfBoundsException {
        needFilter(filter);
        needNotBelowZero(from);
        needNotBelowZero(to);
        if (from > to) {
            throw new IndexOutOfBoundsException("the range ends ahead of its start");
        }
        return now.filters[filter].sizeBelow(to) - now.filters[filter].sizeBelow(from);
    }

    public boolean has(int filter, int row) throws IndexOutOfBoundsException {
        needFilter(filter);
        needNotBelowZero(row);
        return now.filters[filter].contains(row);
    }

    public int next(int filter, int row, boolean isUp) throws IndexOutOfBoundsException {
        needFilter(filter);
        needNotBelowZero(row);
        return isUp ? now.filters[filter].firstFrom(row) : now.filters[filter].lastTo(row);
    }

    public int relation(int filter, int other) throws IndexOutOfBoundsException {
        needFilter(filter);
        needFilter(other);
        RowSet one = now.filters[filter];
        RowSet two = now.filters[other];
        return (one.meets(two) ? 1 : 0) + (one.isWithin(two) ? 2 : 0) + (one.isSame(two) ? 4 : 0);
    }

    public int union(int first, int second, int third) throws IndexOutOfBoundsException {
        needFilter(first);
        needFilter(second);
        needFilter(third);
        RowSet one = now.filters[first];
        RowSet two = now.filters[second];
        RowSet three = now.filters[third];
        scratch.setTo(one);
        scratch.keep(two);
        return one.size() + two.size() + three.size()
                - scratch.size() - one.sizeWith(three) - two.sizeWith(three)
                + scratch.sizeWith(three);
    }

    // ---- told from sets

    public int sum(int filter, int column) throws IndexOutOfBoundsException {
        needFilter(filter);
        needColumn(column);
        return columns[column].sumOver(now.filters[filter]);
    }

    public int least(int filter, int column, int k) throws IndexOutOfBoundsException {
        needFilter(filter);
        needColumn(column);
        return columns[column].leastOver(now.filters[filter], k);
    }

    public int middle(int filter, int column) throws IndexOutOfBoundsException {
        needFilter(filter);
        needColumn(column);
        int many = columns[column].known.sizeWith(now.filters[filter]);
        return many == 0 ? NULL : columns[column].leastOver(now.filters[filter], (many - 1) / 2);
    }

    public int top(int filter, int column, int place) throws IndexOutOfBoundsException {
        needFilter(filter);
        needColumn(column);
        return columns[column].rowAtPlace(now.filters[filter], place);
    }

    public int unlike(int filter, int column) throws IndexOutOfBoundsException {
        needFilter(filter);
        needColumn(column);
        return columns[column].valuesOver(now.filters[filter]);
    }

    public int join(int column, int filter, int otherColumn, int other)
            throws IndexOutOfBoundsException {
        needJoin(column, filter, otherColumn, other);
        return columns[column].pairsWith(now.filters[filter], columns[otherColumn],
                now.filters[other]);
    }

    public int rollup(int filter, int columns)
            throws IndexOutOfBoundsException, IllegalArgumentException {
        needFilter(filter);
        needArgument(columns, 1, (1 << COLUMN_LIMIT) - 1);
        groups.roll(now.filters[filter], this.columns, columns);
        return groups.many;
    }

    public int groupAt(int group, int what)
            throws IndexOutOfBoundsException, IllegalArgumentException {
        needIndex(group, groups.many);
        needArgument(what, 0, COLUMN_LIMIT);
        return groups.cellAt(group, what);
    }

    // ---- packed sets

    public int runs(int packed) throws IndexOutOfBoundsException {
        needPacked(packed);
        return runsOf(packed);
    }

    public int runAt(int packed, int run, boolean isLength) throws IndexOutOfBoundsException {
        needPacked(packed);
        needIndex(run, runsOf(packed));
        scratch.setToRunStarts(now.packed[packed]);
        int first = scratch.numberAt(run);
        if (!isLength) {
            return first;
        }
        scratch.setToRunEnds(now.packed[packed]);
        return scratch.numberAt(run) - first + 1;
    }

    public boolean hasPacked(int packed, int number) throws IndexOutOfBoundsException {
        needPacked(packed);
        return now.packed[packed].contains(number);
    }

    // ---- plans

    public int conditions() {
        return now.conditionCount;
    }

    public int conditionAt(int condition, int what)
            throws IndexOutOfBoundsException, IllegalArgumentException {
        needCondition(condition);
        needArgument(what, WHAT_COLUMN, WHAT_PLACE);
        Condition asked = now.conditions[condition];
        switch (what) {
            case WHAT_COLUMN:
                return asked.column;
            case WHAT_TEST:
                return asked.test;
            case WHAT_NUMBER:
                return asked.number;
            case WHAT_ROWS:
                tellCondition(asked);
                return told.size();
            case WHAT_BEST_WAY:
                return columns[asked.column].bestWayFor(asked.test, asked.number);
            default:
                countSatisfying();
                return placeOf(condition);
        }
    }

    public int cost(int condition, int way)
            throws IndexOutOfBoundsException, IllegalArgumentException {
        needCondition(condition);
        needArgument(way, VALUES, DIGITS);
        Condition asked = now.conditions[condition];
        return columns[asked.column].costOf(asked.test, asked.number, way);
    }

    public int planCost() {
        int total = 0;
        for (int condition = 0; condition < now.conditionCount; condition++) {
            Condition asked = now.conditions[condition];
            Column column = columns[asked.column];
            int way = column.bestWayFor(asked.test, asked.number);
            total += column.costOf(asked.test, asked.number, way);
        }
        return now.conditionCount == 0 ? 0 : total + now.conditionCount - 1;
    }

    // ---- measures

    public double mean(int filter, int column) throws IndexOutOfBoundsException {
        needFilter(filter);
        needColumn(column);
        int many = columns[column].known.sizeWith(now.filters[filter]);
        if (many == 0) {
            return 0.0;
        }
        return (double) columns[column].sumOver(now.filters[filter]) / (double) many;
    }

    public float share(int filter) throws IndexOutOfBoundsException {
        needFilter(filter);
        int many = now.present.size();
        return many == 0 ? 0.0f : (float) now.filters[filter].size() / (float) many;
    }

    public int errors() {
        int wrong = 0;
        for (int column = 0; column < COLUMN_LIMIT; column++) {
            for (int number : LOOKED_AT) {
                lookAtRows(column, number);
                for (int test = LESS; test <= UNLIKE; test++) {
                    if (isToldWrongly(column, test, number)) {
                        wrong++;
                    }
                }
            }
        }
        return wrong;
    }

    // ---- what a call needs

    private static void needIndex(int index, int limit) {
        if (index < 0 || index >= limit) {
            throw new IndexOutOfBoundsException("there is nothing of this number");
        }
    }

    private static void needColumn(int column) {
        needIndex(column, COLUMN_LIMIT);
    }

    private static void needFilter(int filter) {
        needIndex(filter, FILTER_LIMIT);
    }

    private static void needPacked(int packed) {
        needIndex(packed, PACKED_LIMIT);
    }

    private void needCondition(int condition) {
        needIndex(condition, now.conditionCount);
    }

    private static void needJoin(int column, int filter, int otherColumn, int other) {
        needColumn(column);
        needFilter(filter);
        needColumn(otherColumn);
        needFilter(other);
    }

    private void needRow(int row) {
        if (!now.present.contains(row)) {
            throw new IndexOutOfBoundsException("there is no such row");
        }
    }

    private static void needNotBelowZero(int number) {
        if (number < 0) {
            throw new IndexOutOfBoundsException("the number is below 0");
        }
    }

    private static void needArgument(int number, int low, int high) {
        if (number < low || number > high) {
            throw new IllegalArgumentException("the number is out of range");
        }
    }

    private static void needValue(int number) {
        needArgument(number, LEAST_VALUE, GREATEST_VALUE);
    }

    private static void needCell(int value) {
        if (value != NULL) {
            needValue(value);
        }
    }

    private void needFreeRows(int many) {
        if (now.present.size() + many > ROW_LIMIT) {
            throw new IllegalStateException("there is no room for the rows");
        }
    }

    private void needFreeCondition() {
        if (now.conditionCount >= CONDITION_LIMIT) {
            throw new IllegalStateException("there are four conditions");
        }
    }

    private void needChange() {
        if (history.size() == 0) {
            throw new IllegalStateException("there is no change to undo");
        }
    }

    // ---- rows

    private int newRow() {
        scratch.setToAll();
        scratch.leaveOut(now.present);
        int row = scratch.firstFrom(0);
        now.present.mark(row, true);
        return row;
    }

    /** Every change of a cell goes through here, so that the cells and the sets stay alike. */
    private void setCell(int row, int column, int value) {
        columns[column].move(row, now.cellAt(row, column), value);
        now.setCell(row, column, value);
    }

    private void bringBack(State earlier) {
        for (int row = 0; row < ROW_LIMIT; row++) {
            for (int column = 0; column < COLUMN_LIMIT; column++) {
                int value = earlier.cellAt(row, column);
                if (value != now.cellAt(row, column)) {
                    setCell(row, column, value);
                }
            }
        }
        now.setTo(earlier);
    }

    private int runsOf(int packed) {
        scratch.setToRunStarts(now.packed[packed]);
        return scratch.size();
    }

    // ---- the plan

    /** Leaves the rows that satisfy the condition in told. */
    private void tellCondition(Condition asked) {
        Column column = columns[asked.column];
        int way = column.bestWayFor(asked.test, asked.number);
        column.tell(asked.test, asked.number, way, now.present, told);
    }

    private void countSatisfying() {
        for (int condition = 0; condition < now.conditionCount; condition++) {
            tellCondition(now.conditions[condition]);
            satisfying[condition] = told.size();
        }
    }

    /** Asks that countSatisfying() has counted. */
    private int placeOf(int condition) {
        int place = 0;
        for (int other = 0; other < now.conditionCount; other++) {
            boolean isFewer = satisfying[other] < satisfying[condition];
            boolean isAlike = satisfying[other] == satisfying[condition];
            if (isFewer || isAlike && other < condition) {
                place++;
            }
        }
        return place;
    }

    // ---- the look at each row

    private void lookAtRows(int column, int number) {
        seenLess.clear();
        seenEqual.clear();
        seenGreater.clear();
        // a row that is not there has no values
        for (int row = 0; row < ROW_LIMIT; row++) {
            int value = now.cellAt(row, column);
            if (value != NULL) {
                seenLess.mark(row, value < number);
                seenEqual.mark(row, value == number);
                seenGreater.mark(row, value > number);
            }
        }
    }

    /** Asks that lookAtRows() has looked for this column and number. */
    private boolean isToldWrongly(int column, int test, int number) {
        scratch.clear();
        if (test == LESS || test == LESS_OR_EQUAL || test == UNLIKE) {
            scratch.unite(seenLess);
        }
        if (test == LESS_OR_EQUAL || test == EQUAL || test == GREATER_OR_EQUAL) {
            scratch.unite(seenEqual);
        }
        if (test == GREATER_OR_EQUAL || test == GREATER || test == UNLIKE) {
            scratch.unite(seenGreater);
        }
        for (int way = VALUES; way <= DIGITS; way++) {
            columns[column].tell(test, number, way, now.present, told);
            if (!told.isSame(scratch)) {
                return true;
            }
        }
        return false;
    }

    /** A set of numbers from 0 to 119, a bit for each one. */
    private static final class RowSet {
        private static final int WORD = 64;
        private static final long ALL_OF_HIGH = (1L << (ROW_LIMIT - WORD)) - 1L;

        private long low;
        private long high;

        static RowSet[] several(int many) {
            RowSet[] sets = new RowSet[Math.max(many, 0)];
            for (int i = 0; i < sets.length; i++) {
                sets[i] = new RowSet();
            }
            return sets;
        }

        void clear() {
            low = 0L;
            high = 0L;
        }

        void setToAll() {
            low = -1L;
            high = ALL_OF_HIGH;
        }

        void setTo(RowSet other) {
            low = other.low;
            high = other.high;
        }

        void setToRunStarts(RowSet other) {
            low = other.low & ~(other.low << 1);
            high = other.high & ~(other.high << 1 | other.low >>> (WORD - 1));
        }

        void setToRunEnds(RowSet other) {
            low = other.low & ~(other.low >>> 1 | other.high << (WORD - 1));
            high = other.high & ~(other.high >>> 1);
        }

        void mark(int number, boolean isIn) {
            if (number < 0 || number >= ROW_LIMIT) {
                return;
            }
            boolean isLow = number < WORD;
            long bit = 1L << (isLow ? number : number - WORD);
            if (isLow) {
                low = isIn ? low | bit : low & ~bit;
            } else {
                high = isIn ? high | bit : high & ~bit;
            }
        }

        void keep(RowSet other) {
            low &= other.low;
            high &= other.high;
        }

        void unite(RowSet other) {
            low |= other.low;
            high |= other.high;
        }

        void leaveOut(RowSet other) {
            low &= ~other.low;
            high &= ~other.high;
        }

        void leaveOneOf(RowSet other) {
            low ^= other.low;
            high ^= other.high;
        }

        void operate(int operation, RowSet other) {
            switch (operation) {
                case AND:
                    keep(other);
                    break;
                case OR:
                    unite(other);
                    break;
                case XOR:
                    leaveOneOf(other);
                    break;
                default:
                    leaveOut(other);
                    break;
            }
        }

        boolean contains(int number) {
            if (number < 0 || number >= ROW_LIMIT) {
                return false;
            }
            long bits = number < WORD ? low >>> number : high >>> (number - WORD);
            return (bits & 1L) != 0L;
        }

        boolean isEmpty() {
            return (low | high) == 0L;
        }

        boolean meets(RowSet other) {
            return (low & other.low | high & other.high) != 0L;
        }

        boolean isWithin(RowSet other) {
            return (low & ~other.low | high & ~other.high) == 0L;
        }

        boolean isSame(RowSet other) {
            return low == other.low && high == other.high;
        }

        int size() {
            return Long.bitCount(low) + Long.bitCount(high);
        }

        int sizeWith(RowSet other) {
            return Long.bitCount(low & other.low) + Long.bitCount(high & other.high);
        }

        int sizeBelow(int number) {
            if (number <= 0) {
                return 0;
            }
            if (number >= ROW_LIMIT) {
                return size();
            }
            if (number < WORD) {
                return Long.bitCount(low & ((1L << number) - 1L));
            }
            return Long.bitCount(low) + Long.bitCount(high & ((1L << (number - WORD)) - 1L));
        }

        /** The number at a place in ascending order, from 0; NONE without one. */
        int numberAt(int place) {
            if (place < 0 || place >= size()) {
                return NONE;
            }
            int inLow = Long.bitCount(low);
            return place < inLow ? bitAt(low, place) : WORD + bitAt(high, place - inLow);
        }

        int firstFrom(int number) {
            return numberAt(sizeBelow(number));
        }

        int lastTo(int number) {
            return numberAt(sizeBelow(Math.min(number, ROW_LIMIT - 1) + 1) - 1);
        }

        /** Halves the word, and goes to the half where the place is, until one bit is left. */
        private static int bitAt(long bits, int place) {
            long rest = bits;
            int ahead = place;
            int position = 0;
            for (int width = WORD / 2; width > 0; width /= 2) {
                int inHalf = Long.bitCount(rest & ((1L << width) - 1L));
                if (ahead >= inHalf) {
                    ahead -= inHalf;
                    position += width;
                    rest >>>= width;
                }
            }
            return position;
        }
    }

    /** The sets of rows by which a column is kept, and what is told from them alone. */
    private static final class Column {
        private final RowSet[] ofValues = RowSet.several(VALUE_LIMIT);
        private final RowSet[] belowBounds = RowSet.several(BOUND_LIMIT);
        private final RowSet[] ofDigits = RowSet.several(DIGIT_LIMIT);
        private final RowSet known = new RowSet();
        private final RowSet nothing = new RowSet();
        private final RowSet less = new RowSet();
        private final RowSet equal = new RowSet();
        private final RowSet among = new RowSet();
        private final RowSet part = new RowSet();

        /** Takes a row from the sets of one value to those of another one; NULL has no sets. */
        void move(int row, int from, int to) {
            markInSets(row, from, false);
            markInSets(row, to, true);
        }

        private void markInSets(int row, int value, boolean isIn) {
            if (!isValue(value)) {
                return;
            }
            known.mark(row, isIn);
            ofValue(value).mark(row, isIn);
            for (int bound = 0; bound < BOUND_LIMIT; bound++) {
                if (value < boundAt(bound)) {
                    belowBounds[bound].mark(row, isIn);
                }
            }
            for (int digit = 0; digit < DIGIT_LIMIT; digit++) {
                if (hasDigit(value, digit)) {
                    ofDigits[digit].mark(row, isIn);
                }
            }
        }

        private static boolean isValue(int number) {
            return number >= LEAST_VALUE && number <= GREATEST_VALUE;
        }

        private static int boundAt(int bound) {
            return LEAST_VALUE + BOUND_STEP * bound;
        }

        /** The greatest bound that is at most the value. */
        private static int boundUnder(int value) {
            return isValue(value) ? (value - LEAST_VALUE) / BOUND_STEP : 0;
        }

        private static boolean hasDigit(int value, int digit) {
            return (value >> digit & 1) == 1;
        }

        RowSet ofValue(int value) {
            boolean isThere = value >= LEAST_VALUE && value <= GREATEST_VALUE;
            return isThere ? ofValues[value - LEAST_VALUE] : nothing;
        }

        int valuesIn(int from, int to) {
            int many = 0;
            for (int value = Math.max(from, LEAST_VALUE); value <= Math.min(to, GREATEST_VALUE);
                    value++) {
                if (!ofValue(value).isEmpty()) {
                    many++;
                }
            }
            return many;
        }

        void uniteValues(int from, int to, RowSet out) {
            for (int value = Math.max(from, LEAST_VALUE); value <= Math.min(to, GREATEST_VALUE);
                    value++) {
                out.unite(ofValue(value));
            }
        }

        int valueAbove(int number) {
            for (int value = LEAST_VALUE; value <= GREATEST_VALUE; value++) {
                if (value > number && !ofValue(value).isEmpty()) {
                    return value;
                }
            }
            return NULL;
        }

        int valueBelow(int number) {
            for (int value = GREATEST_VALUE; value >= LEAST_VALUE; value--) {
                if (value < number && !ofValue(value).isEmpty()) {
                    return value;
                }
            }
            return NULL;
        }

        /** Makes out the set of the rows that satisfy a test, told from the sets of a way. */
        void tell(int test, int number, int way, RowSet present, RowSet out) {
            if (test == WITH_VALUE) {
                out.setTo(known);
            } else if (test == WITHOUT_VALUE) {
                out.setTo(present);
                out.leaveOut(known);
            } else if (way == VALUES) {
                tellByValues(test, number, out);
            } else if (way == BOUNDS) {
                splitByBounds(number);
                tellFromSplit(test, known, out);
            } else {
                splitByDigits(number);
                tellFromSplit(test, known, out);
            }
        }

        private void tellByValues(int test, int number, RowSet out) {
            out.clear();
            if (test == LESS || test == LESS_OR_EQUAL || test == UNLIKE) {
                uniteValues(LEAST_VALUE, number - 1, out);
            }
            if (test == LESS_OR_EQUAL || test == EQUAL || test == GREATER_OR_EQUAL) {
                uniteValues(number, number, out);
            }
            if (test == GREATER_OR_EQUAL || test == GREATER || test == UNLIKE) {
                uniteValues(number + 1, GREATEST_VALUE, out);
            }
        }

        private void splitByBounds(int number) {
            int bound = boundUnder(number);
            less.setTo(belowBounds[bound]);
            uniteValues(boundAt(bound), number - 1, less);
            equal.setTo(ofValue(number));
        }

        /** From the highest digit on, equal are the rows that have the number's digits so far. */
        private void splitByDigits(int number) {
            less.clear();
            equal.setTo(known);
            for (int digit = DIGIT_LIMIT - 1; digit >= 0; digit--) {
                boolean isOne = hasDigit(number, digit);
                part.setTo(equal);
                if (isOne) {
                    equal.keep(ofDigits[digit]);
                } else {
                    equal.leaveOut(ofDigits[digit]);
                }
                // the sign digit counts below zero: there the rows with a 1 are the lesser ones
                if (isOne != (digit == SIGN_DIGIT)) {
                    part.leaveOut(equal);
                    less.unite(part);
                }
            }
        }

        /** Makes out what a test leaves of some rows, of which less and equal are parts. */
        private void tellFromSplit(int test, RowSet some, RowSet out) {
            switch (test) {
                case LESS:
                    out.setTo(less);
                    break;
                case LESS_OR_EQUAL:
                    out.setTo(less);
                    out.unite(equal);
                    break;
                case EQUAL:
                    out.setTo(equal);
                    break;
                case GREATER_OR_EQUAL:
                    out.setTo(some);
                    out.leaveOut(less);
                    break;
                case GREATER:
                    out.setTo(some);
                    out.leaveOut(less);
                    out.leaveOut(equal);
                    break;
                default:
                    out.setTo(some);
                    out.leaveOut(equal);
                    break;
            }
        }

        /** Makes out the set of the rows whose value satisfies a test with that of a column. */
        void tellAgainst(Column other, int test, RowSet out) {
            among.setTo(known);
            among.keep(other.known);
            less.clear();
            equal.setTo(among);
            for (int digit = DIGIT_LIMIT - 1; digit >= 0; digit--) {
                RowSet mine = ofDigits[digit];
                RowSet theirs = other.ofDigits[digit];
                boolean isSign = digit == SIGN_DIGIT;
                part.setTo(equal);
                part.keep(isSign ? mine : theirs);
                part.leaveOut(isSign ? theirs : mine);
                less.unite(part);
                part.setTo(mine);
                part.leaveOneOf(theirs);
                equal.leaveOut(part);
            }
            tellFromSplit(test, among, out);
        }

        int sumOver(RowSet rows) {
            int total = 0;
            for (int digit = 0; digit < DIGIT_LIMIT; digit++) {
                total += ofDigits[digit].sizeWith(rows) * weightOf(digit);
            }
            return total;
        }

        private static int weightOf(int digit) {
            return digit == SIGN_DIGIT ? LEAST_VALUE : 1 << digit;
        }

        /** The k-th least value: each digit halves the rows among which it is. */
        int leastOver(RowSet rows, int k) {
            among.setTo(rows);
            among.keep(known);
            if (k < 0 || k >= among.size()) {
                return NULL;
            }
            int value = 0;
            int ahead = k;
            for (int digit = DIGIT_LIMIT - 1; digit >= 0; digit--) {
                boolean isSign = digit == SIGN_DIGIT;
                part.setTo(among);
                if (isSign) {
                    part.keep(ofDigits[digit]);
                } else {
                    part.leaveOut(ofDigits[digit]);
                }
                int lesser = part.size();
                boolean isLesser = ahead < lesser;
                if (isLesser) {
                    among.setTo(part);
                } else {
                    among.leaveOut(part);
                    ahead -= lesser;
                }
                if (isLesser == isSign) {
                    value += weightOf(digit);
                }
            }
            return value;
        }

        /** The row at a place of the order: the greatest value first, then the lesser row. */
        int rowAtPlace(RowSet rows, int place) {
            int many = known.sizeWith(rows);
            if (place < 0 || place >= many) {
                return NONE;
            }
            splitByDigits(leastOver(rows, many - 1 - place));
            int greater = many - less.sizeWith(rows) - equal.sizeWith(rows);
            equal.keep(rows);
            return equal.numberAt(place - greater);
        }

        int valuesOver(RowSet rows) {
            int many = 0;
            for (int value = LEAST_VALUE; value <= GREATEST_VALUE; value++) {
                if (ofValue(value).meets(rows)) {
                    many++;
                }
            }
            return many;
        }

        int pairsWith(RowSet rows, Column other, RowSet otherRows) {
            int pairs = 0;
            for (int value = LEAST_VALUE; value <= GREATEST_VALUE; value++) {
                pairs += ofValue(value).sizeWith(rows) * other.ofValue(value).sizeWith(otherRows);
            }
            return pairs;
        }

        void tellPartners(RowSet rows, Column other, RowSet otherRows, RowSet out) {
            out.clear();
            for (int value = LEAST_VALUE; value <= GREATEST_VALUE; value++) {
                if (other.ofValue(value).meets(otherRows)) {
                    out.unite(ofValue(value));
                }
            }
            out.keep(rows);
        }

        int costOf(int test, int number, int way) {
            if (test == WITHOUT_VALUE || test == WITH_VALUE) {
                return 1;
            }
            if (way == DIGITS) {
                return costByDigits(test);
            }
            int same = valuesIn(number, number);
            if (way == BOUNDS) {
                return costByBounds(test, valuesIn(boundAt(boundUnder(number)), number - 1), same);
            }
            int lesser = valuesIn(LEAST_VALUE, number - 1);
            return costByValues(test, lesser, same, valuesIn(number + 1, GREATEST_VALUE));
        }

        int bestWayFor(int test, int number) {
            int best = VALUES;
            int leastCost = costOf(test, number, VALUES);
            for (int way = BOUNDS; way <= DIGITS; way++) {
                int wayCost = costOf(test, number, way);
                if (wayCost < leastCost) {
                    best = way;
                    leastCost = wayCost;
                }
            }
            return best;
        }

        private static int costByValues(int test, int lesser, int same, int greater) {
            switch (test) {
                case LESS:
                    return lesser;
                case LESS_OR_EQUAL:
                    return lesser + same;
                case EQUAL:
                    return same;
                case GREATER_OR_EQUAL:
                    return same + greater;
                case GREATER:
                    return greater;
                default:
                    return lesser + greater;
            }
        }

        private static int costByBounds(int test, int fromBound, int same) {
            switch (test) {
                case LESS:
                    return 1 + fromBound;
                case LESS_OR_EQUAL:
                    return 1 + fromBound + same;
                case EQUAL:
                    return 3 + 2 * fromBound + same;
                case GREATER_OR_EQUAL:
                    return 2 + fromBound;
                case GREATER:
                    return 2 + fromBound + same;
                default:
                    return 4 + 2 * fromBound + same;
            }
        }

        private static int costByDigits(int test) {
            switch (test) {
                case LESS:
                case LESS_OR_EQUAL:
                    return 14;
                case EQUAL:
                    return 7;
                case UNLIKE:
                    return 8;
                default:
                    return 15;
            }
        }
    }

    /** One condition of the plan. */
    private static final class Condition {
        private int column;
        private int test;
        private int number;

        void ask(int newColumn, int newTest, int newNumber) {
            column = newColumn;
            test = newTest;
            number = newNumber;
        }

        void setTo(Condition other) {
            ask(other.column, other.test, other.number);
        }
    }

    /** All that undo() brings back; the cells of a row that is not there are NULL. */
    private static final class State {
        private final RowSet present = new RowSet();
        private final int[] cells = new int[ROW_LIMIT * COLUMN_LIMIT];
        private final RowSet[] filters = RowSet.several(FILTER_LIMIT);
        private final RowSet[] packed = RowSet.several(PACKED_LIMIT);
        private final Condition[] conditions = new Condition[CONDITION_LIMIT];
        private int conditionCount;

        State() {
            for (int cell = 0; cell < cells.length; cell++) {
                cells[cell] = NULL;
            }
            for (int condition = 0; condition < CONDITION_LIMIT; condition++) {
                conditions[condition] = new Condition();
            }
        }

        private static boolean isCell(int row, int column) {
            return row >= 0 && row < ROW_LIMIT && column >= 0 && column < COLUMN_LIMIT;
        }

        int cellAt(int row, int column) {
            return isCell(row, column) ? cells[row * COLUMN_LIMIT + column] : NULL;
        }

        void setCell(int row, int column, int value) {
            if (isCell(row, column)) {
                cells[row * COLUMN_LIMIT + column] = value;
            }
        }

        void setTo(State other) {
            present.setTo(other.present);
            System.arraycopy(other.cells, 0, cells, 0, cells.length);
            for (int filter = 0; filter < FILTER_LIMIT; filter++) {
                filters[filter].setTo(other.filters[filter]);
            }
            for (int set = 0; set < PACKED_LIMIT; set++) {
                packed[set].setTo(other.packed[set]);
            }
            for (int condition = 0; condition < CONDITION_LIMIT; condition++) {
                conditions[condition].setTo(other.conditions[condition]);
            }
            conditionCount = other.conditionCount;
        }
    }

    /** The states ahead of the latest changes; the oldest one's place is used again. */
    private static final class History {
        private final State[] states = new State[UNDO_LIMIT];
        private int free;
        private int many;

        History() {
            for (int i = 0; i < UNDO_LIMIT; i++) {
                states[i] = new State();
            }
        }

        int size() {
            return many;
        }

        void remember(State state) {
            states[free].setTo(state);
            free = (free + 1) % UNDO_LIMIT;
            many = Math.min(many + 1, UNDO_LIMIT);
        }

        State takeLatest() {
            free = (free + UNDO_LIMIT - 1) % UNDO_LIMIT;
            many = Math.max(many - 1, 0);
            return states[free];
        }
    }

    /** The groups of the latest rollup(). */
    private static final class Groups {
        /** Each row is in a group for each number of columns that count, from all to none. */
        private static final int GROUP_LIMIT = ROW_LIMIT * COLUMN_LIMIT + 1;
        private static final int WIDTH = COLUMN_LIMIT + 1;

        private final int[] cells = new int[GROUP_LIMIT * WIDTH];
        private final int[] current = new int[COLUMN_LIMIT];
        private final int[] counting = new int[COLUMN_LIMIT];
        private final RowSet[] parts = RowSet.several(COLUMN_LIMIT + 1);
        private final RowSet[] rests = RowSet.several(COLUMN_LIMIT);
        private int countingMany;
        private int many;

        int cellAt(int group, int what) {
            boolean isThere = group >= 0 && group < many && what >= 0 && what < WIDTH;
            return isThere ? cells[group * WIDTH + what] : NONE;
        }

        void roll(RowSet rows, Column[] columns, int bits) {
            many = 0;
            countingMany = 0;
            for (int column = 0; column < COLUMN_LIMIT; column++) {
                current[column] = ALL;
                if ((bits >> column & 1) == 1) {
                    counting[countingMany] = column;
                    countingMany++;
                }
            }
            parts[0].setTo(rows);
            if (!rows.isEmpty()) {
                split(this, columns, 0);
            }
        }

        /** The groups within the part of a level, by ascending values, then the part itself. */
        private static void split(Groups groups, Column[] columns, int level) {
            if (level < 0 || level > COLUMN_LIMIT) {
                return;
            }
            if (level < groups.countingMany && level < COLUMN_LIMIT) {
                int number = groups.counting[level];
                Column column = columns[number];
                RowSet rest = groups.rests[level];
                RowSet part = groups.parts[level + 1];
                rest.setTo(groups.parts[level]);
                for (int i = 0; i < ROW_LIMIT && !rest.isEmpty(); i++) {
                    int value = column.leastOver(rest, 0);
                    part.setTo(rest);
                    // without a value only the rows that have none are left
                    if (value != NULL) {
                        part.keep(column.ofValue(value));
                    }
                    groups.current[number] = value;
                    split(groups, columns, level + 1);
                    rest.leaveOut(part);
                }
                groups.current[number] = ALL;
            }
            groups.addGroup(groups.parts[level].size());
        }

        private void addGroup(int rows) {
            if (many >= GROUP_LIMIT) {
                return;
            }
            int start = many * WIDTH;
            System.arraycopy(current, 0, cells, start, COLUMN_LIMIT);
            cells[start + COLUMN_LIMIT] = rows;
            many++;
        }
    }

    /** A row of draws by a seed. */
    private static final class Draws {
        private int x;

        void start(int seed) {
            x = seed;
        }

        int draw(int n) {
            x = x * 1103515245 + 12345;
            return n <= 0 ? 0 : (x >>> 16) % n;
        }
    }
}
