/** Makes stores to be looked at, and tells what can be seen of a store from outside, as text. */
final class Stores {
    static final int NULL = Bitmapstore.NULL;
    static final int NONE = Bitmapstore.NONE;
    static final int ALL = Bitmapstore.ALL;
    static final int MAX = Integer.MAX_VALUE;
    static final int MIN = Integer.MIN_VALUE;

    private Stores() {
    }

    /** A row for each value, which it has in the column 0; in the other ones it has none. */
    static Bitmapstore ofColumn(int... values) {
        Bitmapstore x = new Bitmapstore();
        for (int value : values) {
            x.addRow(value, NULL, NULL, NULL);
        }
        return x;
    }

    static Bitmapstore ofRows(int[]... rows) {
        Bitmapstore x = new Bitmapstore();
        for (int[] row : rows) {
            x.addRow(row[0], row[1], row[2], row[3]);
        }
        return x;
    }

    /** 120 rows: from -64 to 55 in the column 0, from 63 to -56 in 1, none in 2, 0 or 1 in 3. */
    static Bitmapstore full() {
        Bitmapstore x = new Bitmapstore();
        for (int row = 0; row < 120; row++) {
            x.addRow(row - 64, 63 - row, NULL, row % 2);
        }
        return x;
    }

    static void put(Bitmapstore x, int filter, int... rows) {
        for (int row : rows) {
            x.put(filter, row, true);
        }
    }

    /** Packs rows; the filter 7 is used for it, and is empty afterwards. */
    static void pack(Bitmapstore x, int packed, int... rows) {
        x.combine(7, Bitmapstore.XOR, 7);
        put(x, 7, rows);
        x.pack(packed, 7);
        x.combine(7, Bitmapstore.XOR, 7);
    }

    // ---- as text

    static String row(Bitmapstore x, int row) {
        return x.valueAt(row, 0) + " " + x.valueAt(row, 1) + " " + x.valueAt(row, 2) + " "
                + x.valueAt(row, 3);
    }

    /** The rows, as in "0-2 5". */
    static String filter(Bitmapstore x, int filter) {
        boolean[] isIn = new boolean[130];
        for (int number = 0; number < isIn.length; number++) {
            isIn[number] = x.has(filter, number);
        }
        return ranges(isIn);
    }

    /** The numbers, as in "0-2 5". */
    static String packed(Bitmapstore x, int packed) {
        boolean[] isIn = new boolean[130];
        for (int number = 0; number < isIn.length; number++) {
            isIn[number] = x.hasPacked(packed, number);
        }
        return ranges(isIn);
    }

    /** The runs as runAt() tells them. */
    static String runs(Bitmapstore x, int packed) {
        StringBuilder text = new StringBuilder();
        for (int run = 0; run < x.runs(packed); run++) {
            int first = x.runAt(packed, run, false);
            addRange(text, first, first + x.runAt(packed, run, true) - 1);
        }
        return text.toString();
    }

    private static String ranges(boolean[] isIn) {
        StringBuilder text = new StringBuilder();
        int first = NONE;
        for (int number = 0; number <= isIn.length; number++) {
            boolean isThere = number < isIn.length && isIn[number];
            if (isThere && first == NONE) {
                first = number;
            } else if (!isThere && first != NONE) {
                addRange(text, first, number - 1);
                first = NONE;
            }
        }
        return text.toString();
    }

    private static void addRange(StringBuilder text, int first, int last) {
        text.append(text.length() == 0 ? "" : " ").append(first);
        if (last != first) {
            text.append("-").append(last);
        }
    }

    static String condition(Bitmapstore x, int condition) {
        return x.conditionAt(condition, 0) + " " + x.conditionAt(condition, 1) + " "
                + x.conditionAt(condition, 2);
    }

    static String group(Bitmapstore x, int group) {
        return x.groupAt(group, 0) + " " + x.groupAt(group, 1) + " " + x.groupAt(group, 2) + " "
                + x.groupAt(group, 3) + ": " + x.groupAt(group, 4);
    }

    /** The groups, one behind the other, up to the first one that is refused. */
    static String groups(Bitmapstore x) {
        StringBuilder text = new StringBuilder();
        for (int group = 0; ; group++) {
            try {
                String told = group(x, group);
                text.append(group == 0 ? "" : ", ").append(told);
            } catch (IndexOutOfBoundsException e) {
                return text.toString();
            }
        }
    }

    /** What undo() brings back: rows, filters, packed sets, conditions. */
    static String state(Bitmapstore x) {
        StringBuilder text = new StringBuilder().append(x.rows()).append(" rows\n");
        for (int row = x.nextRow(0); row != NONE; row = x.nextRow(row + 1)) {
            text.append(row).append(": ").append(row(x, row)).append("\n");
        }
        for (int filter = 0; filter < 8; filter++) {
            text.append("filter ").append(filter(x, filter)).append("\n");
        }
        for (int packed = 0; packed < 4; packed++) {
            text.append("packed ").append(packed(x, packed)).append("\n");
        }
        for (int condition = 0; condition < x.conditions(); condition++) {
            text.append("condition ").append(condition(x, condition)).append("\n");
        }
        return text.toString();
    }

    /** How many rows are in each of the sets by which the columns are kept. */
    static String kept(Bitmapstore x) {
        StringBuilder text = new StringBuilder();
        for (int column = 0; column < 4; column++) {
            for (int value = -64; value <= 63; value++) {
                int many = x.kept(column, Bitmapstore.VALUES, value);
                text.append(many == 0 ? "" : value + ": " + many + ", ");
            }
            for (int which = 0; which < 8; which++) {
                text.append(x.kept(column, Bitmapstore.BOUNDS, which)).append(" ")
                        .append(x.kept(column, Bitmapstore.DIGITS, which)).append(" ");
            }
            text.append("\n");
        }
        return text.toString();
    }

    /** The states that undo() brings back, one behind the other; the store is not as it was then. */
    static String history(Bitmapstore x) {
        StringBuilder text = new StringBuilder();
        while (true) {
            try {
                text.append(x.undo()).append(" left\n").append(state(x)).append(kept(x));
            } catch (IllegalStateException e) {
                return text.toString();
            }
        }
    }

    /** All that can be seen, also what can be undone; the store is not as it was then. */
    static String everything(Bitmapstore x) {
        return state(x) + kept(x) + groups(x) + "\n" + history(x);
    }
}
