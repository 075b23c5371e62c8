/**
 * The boundary cases of packed sets, plans and changes: sections 4, 6 and 7 and the promises 17 to
 * 22 and 44 to 50. Each part's title tells the section or promise and what it says.
 */
public final class PlanBoundaryTest {
    private static final int NULL = Bitmapstore.NULL;
    private static final int VALUES = Bitmapstore.VALUES;
    private static final int BOUNDS = Bitmapstore.BOUNDS;
    private static final int DIGITS = Bitmapstore.DIGITS;
    private static final int MAX = Integer.MAX_VALUE;
    private static final int MIN = Integer.MIN_VALUE;

    private static final Checks checks = new Checks("PlanBoundaryTest");

    public static void main(String[] args) {
        packedSets();
        packing();
        combinePacked();
        contraryPacked();
        runs();
        conditions();
        costs();
        bestWays();
        planOrder();
        planCost();
        undone();
        undoneLimits();
        checks.finish();
    }

    private static void isPacked(String call, Bitmapstore x, int packed, String want) {
        checks.dueText(call, Stores.packed(x, packed), want);
        checks.dueText(call + ", its runs", Stores.runs(x, packed), want);
        checks.due(call + ", their number", x.runs(packed),
                want.isEmpty() ? 0 : want.split(" ").length);
    }

    // ---- packed sets

    private static void packedSets() {
        checks.start("4: There are the packed sets 0 to 3, empty at first");
        Bitmapstore x = Stores.full();
        for (int packed = 0; packed < 4; packed++) {
            isPacked("set " + packed, x, packed, "");
            Stores.pack(x, packed, 30 * packed);
        }
        for (int packed = 0; packed < 4; packed++) {
            isPacked("each set is one of its own", x, packed, String.valueOf(30 * packed));
        }
        checks.dueIndex("packed 4", () -> x.runs(4));
        checks.dueIndex("packed -1", () -> x.runs(-1));
        checks.start("4: rows that come or are struck do not change them");
        Stores.pack(x, 0, 0, 1, 119);
        x.strike(0);
        x.strike(119);
        isPacked("struck", x, 0, "0-1 119");
        x.addRow(1, 1, 1, 1);
        isPacked("a row comes", x, 0, "0-1 119");
        x.strike(1);
        x.contrary(6);
        x.pack(1, 6);
        x.addRow(1, 1, 1, 1);
        isPacked("the set of the rows that were there", x, 1, "0 2-118");
        checks.start("promise 46: any number");
        x.contraryPacked(3);
        x.contraryPacked(2);
        x.combinePacked(3, Bitmapstore.OR, 2);
        for (int number : new int[] {0, 63, 64, 119}) {
            checks.due("number " + number, x.hasPacked(3, number), true);
        }
        for (int number : new int[] {-1, -64, -128, MIN, MIN + 1, 120, 121, 127, 128, 183, 184,
            191, 256, MAX}) {
            checks.due("number " + number, x.hasPacked(3, number), false);
        }
        checks.dueIndex("packed 4, any number", () -> x.hasPacked(4, MAX));
        checks.dueIndex("packed -1, any number", () -> x.hasPacked(-1, MIN));
    }

    private static void packing() {
        checks.start("promise 17: how many runs the packed set has");
        Bitmapstore x = Stores.full();
        checks.due("no rows", x.pack(0, 0), 0);
        x.contrary(0);
        checks.due("all rows", x.pack(0, 0), 1);
        isPacked("all rows", x, 0, "0-119");
        for (int row = 0; row < 120; row += 2) {
            x.put(1, row, true);
        }
        checks.due("each second row", x.pack(0, 1), 60);
        checks.due("the last run", x.runAt(0, 59, false), 118);
        checks.due("the last run", x.runAt(0, 59, true), 1);
        checks.dueIndex("behind the last run", () -> x.runAt(0, 60, true));
        checks.due("over what was packed", x.pack(0, 7), 0);
        isPacked("over what was packed", x, 0, "");
        checks.due("without rows", new Bitmapstore().pack(3, 7), 0);
        checks.dueIndex("packed 4", () -> x.pack(4, 0));
        checks.dueIndex("packed -1", () -> x.pack(-1, 0));
        checks.dueIndex("filter 8", () -> x.pack(0, 8));
        checks.dueIndex("filter -1", () -> x.pack(0, -1));
    }

    /** The packed set 0 has no numbers, 1 all, 2 those at the ends and in the middle, 3 the rest. */
    private static Bitmapstore withPacked() {
        Bitmapstore x = Stores.full();
        x.contraryPacked(1);
        Stores.pack(x, 2, 0, 63, 64, 119);
        Stores.pack(x, 3, 0, 63, 64, 119);
        x.contraryPacked(3);
        return x;
    }

    private static void combinePacked() {
        checks.start("promise 18: AND, OR, XOR or AND_NOT; perhaps the same");
        String all = "0-119";
        String some = "0 63-64 119";
        String rest = "1-62 65-118";
        String[] sets = {"", all, some, rest};
        // for each two of the sets, by AND, OR, XOR, AND_NOT
        String[][][] due = {
            {{"", "", "", ""}, {"", all, all, ""}, {"", some, some, ""}, {"", rest, rest, ""}},
            {{"", all, all, all}, {all, all, "", ""}, {some, all, rest, rest},
                {rest, all, some, some}},
            {{"", some, some, some}, {some, all, rest, ""}, {some, some, "", ""},
                {"", all, all, some}},
            {{"", rest, rest, rest}, {rest, all, some, ""}, {"", all, all, rest},
                {rest, rest, "", ""}}};
        for (int first = 0; first < 4; first++) {
            for (int second = 0; second < 4; second++) {
                for (int operation = 0; operation < 4; operation++) {
                    Bitmapstore x = withPacked();
                    String call = first + " " + operation + " " + second;
                    int answer = x.combinePacked(first, operation, second);
                    isPacked(call, x, first, due[first][second][operation]);
                    checks.due(call, answer, x.runs(first));
                    if (first != second) {
                        isPacked("the other one stays", x, second, sets[second]);
                    }
                }
            }
        }
        Bitmapstore x = withPacked();
        checks.dueArgument("operation 4", () -> x.combinePacked(1, 4, 2));
        checks.dueArgument("operation -1", () -> x.combinePacked(1, -1, 2));
        checks.dueIndex("other ahead of operation", () -> x.combinePacked(1, 4, 4));
        checks.dueIndex("packed ahead of operation", () -> x.combinePacked(-1, -1, 2));
        isPacked("refused", x, 1, all);
    }

    private static void contraryPacked() {
        checks.start("4: all numbers from 0 to 119 that are not in it");
        Bitmapstore x = new Bitmapstore();
        checks.due("of an empty one, without rows", x.contraryPacked(0), 1);
        isPacked("of an empty one, without rows", x, 0, "0-119");
        checks.due("the length", x.runAt(0, 0, true), 120);
        checks.due("of all numbers", x.contraryPacked(0), 0);
        isPacked("of all numbers", x, 0, "");
        Bitmapstore full = Stores.full();
        int[][] sets = {{0}, {119}, {0, 119}, {63}, {64}, {63, 64}, {1}, {118}};
        String[] due = {"1-119", "0-118", "1-118", "0-62 64-119", "0-63 65-119", "0-62 65-119",
            "0 2-119", "0-117 119"};
        for (int i = 0; i < sets.length; i++) {
            Stores.pack(full, 2, sets[i]);
            String ahead = Stores.packed(full, 2);
            checks.due(ahead, full.contraryPacked(2), due[i].split(" ").length);
            isPacked(ahead, full, 2, due[i]);
            full.contraryPacked(2);
            isPacked("twice", full, 2, ahead);
        }
    }

    private static void runs() {
        checks.start("4: A run is a longest row of numbers of the set, one behind the other");
        Bitmapstore x = Stores.full();
        int[][] sets = {{}, {0}, {119}, {0, 119}, {0, 1}, {118, 119}, {62, 63}, {63, 64}, {64, 65},
            {62, 64}, {63, 65}, {0, 2, 4}, {0, 1, 3, 4, 119}, {61, 62, 63, 64, 65, 66}};
        String[] due = {"", "0", "119", "0 119", "0-1", "118-119", "62-63", "63-64", "64-65",
            "62 64", "63 65", "0 2 4", "0-1 3-4 119", "61-66"};
        for (int i = 0; i < sets.length; i++) {
            Stores.pack(x, 0, sets[i]);
            isPacked("set " + due[i], x, 0, due[i]);
            int behind = x.runs(0);
            for (int run : new int[] {-1, behind, behind + 1, 120, MIN, MAX}) {
                checks.dueIndex("promise 45: a run that is not there, its first number",
                        () -> x.runAt(0, run, false));
                checks.dueIndex("promise 45: a run that is not there, its length",
                        () -> x.runAt(0, run, true));
            }
        }
        checks.dueIndex("packed 4", () -> x.runAt(4, 0, true));
        checks.dueIndex("packed -1", () -> x.runAt(-1, 0, false));
    }

    // ---- conditions

    private static void conditions() {
        checks.start("6: There are up to four conditions, numbered from 0");
        Bitmapstore x = Stores.ofColumn(1, 2, 3);
        checks.due("none", x.conditions(), 0);
        checks.dueIndex("none", () -> x.conditionAt(0, 0));
        checks.dueIndex("none", () -> x.cost(0, 0));
        checks.dueIndex("none", () -> x.dropCondition(0));
        for (int i = 0; i < 4; i++) {
            int behind = i + 1;
            checks.due("condition " + i, x.addCondition(i, 2 * i, 42 * i - 64), i);
            checks.due("how many", x.conditions(), i + 1);
            checks.dueIndex("behind the last one", () -> x.conditionAt(behind, 0));
            checks.dueIndex("behind the last one", () -> x.dropCondition(behind));
        }
        checks.start("promise 20: IllegalStateException if there are four");
        checks.dueState("a fifth one", () -> x.addCondition(0, 0, 0));
        checks.dueState("a fifth one that is alike", () -> x.addCondition(3, 6, 62));
        checks.due("how many", x.conditions(), 4);
        String[] due = {"0 0 -64", "1 2 -22", "2 4 20", "3 6 62"};
        for (int i = 0; i < 4; i++) {
            checks.dueText("condition " + i, Stores.condition(x, i), due[i]);
        }
        checks.start("promise 21: those behind it get a number that is less by 1");
        checks.dueIndex("condition 4", () -> x.dropCondition(4));
        checks.dueIndex("condition -1", () -> x.dropCondition(-1));
        checks.due("the first one", x.dropCondition(0), 3);
        checks.dueText("0", Stores.condition(x, 0), due[1]);
        checks.dueText("2", Stores.condition(x, 2), due[3]);
        checks.due("a fourth one again", x.addCondition(0, 7, 63), 3);
        checks.due("the last one", x.dropCondition(3), 3);
        checks.dueText("2 stays", Stores.condition(x, 2), due[3]);
        checks.due("one in the middle", x.dropCondition(1), 2);
        checks.dueText("0 stays", Stores.condition(x, 0), due[1]);
        checks.dueText("1", Stores.condition(x, 1), due[3]);
        checks.dueIndex("2 is gone", () -> x.conditionAt(2, 0));
        checks.due("the last one of two", x.dropCondition(1), 1);
        checks.due("the only one", x.dropCondition(0), 0);
        checks.dueIndex("of none", () -> x.dropCondition(0));
        checks.due("the first one again", x.addCondition(3, 7, 63), 0);
        conditionRanges();
    }

    private static void conditionRanges() {
        checks.start("promise 20: column: 0 to 3, test: 0 to 7, number: -64 to 63");
        Bitmapstore x = new Bitmapstore();
        for (int number : new int[] {-65, 64, NULL, 101, MIN, MAX}) {
            for (int test = 0; test < 8; test++) {
                int one = test;
                checks.dueArgument("number " + number, () -> x.addCondition(0, one, number));
            }
        }
        for (int test : new int[] {-1, 8, MIN, MAX}) {
            checks.dueArgument("test " + test, () -> x.addCondition(0, test, 0));
        }
        for (int column : new int[] {-1, 4, MIN, MAX}) {
            checks.dueIndex("column " + column, () -> x.addCondition(column, 8, 64));
        }
        checks.due("refused", x.conditions(), 0);
        x.addCondition(3, 7, 63);
        x.addCondition(0, 0, -64);
        checks.dueText("the greatest ones", Stores.condition(x, 0), "3 7 63");
        checks.dueText("the least ones", Stores.condition(x, 1), "0 0 -64");
        checks.start("promise 48: what: 0 to 5");
        for (int what : new int[] {-1, 6, 7, MIN, MAX}) {
            checks.dueArgument("what " + what, () -> x.conditionAt(1, what));
            checks.dueIndex("condition ahead of what", () -> x.conditionAt(2, what));
        }
        checks.start("promise 49: VALUES, BOUNDS or DIGITS");
        for (int way : new int[] {-1, 3, MIN, MAX}) {
            checks.dueArgument("way " + way, () -> x.cost(1, way));
            checks.dueIndex("condition ahead of way", () -> x.cost(-1, way));
        }
    }

    // ---- costs

    private static void costsAre(Bitmapstore x, int number, String byValues, String byBounds) {
        String[] values = byValues.split(" ");
        String[] bounds = byBounds.split(" ");
        int[] digits = {14, 14, 7, 15, 15, 8};
        for (int test = 0; test < 6; test++) {
            int condition = x.addCondition(0, test, number);
            String call = "test " + test + ", number " + number;
            checks.due(call + ", by values", x.cost(condition, VALUES),
                    Integer.parseInt(values[test]));
            checks.due(call + ", by bounds", x.cost(condition, BOUNDS),
                    Integer.parseInt(bounds[test]));
            checks.due(call + ", by digits", x.cost(condition, DIGITS), digits[test]);
            x.dropCondition(condition);
        }
    }

    /** Less, less or equal, equal, greater or equal, greater, unlike. */
    private static void costs() {
        checks.start("6: g be the greatest bound that is at most the number, n the values from g on");
        Bitmapstore x = Stores.ofColumn(-64, -64, -63, -49, -48, -47, 0, 47, 48, 62, 63, NULL);
        // -64 -63 -49 | -48 -47 | 0 | 47 | 48 62 63
        costsAre(x, -64, "0 1 1 10 9 9", "1 2 4 2 3 5");
        costsAre(x, -63, "1 2 1 9 8 9", "2 3 6 3 4 7");
        costsAre(x, -62, "2 2 0 8 8 10", "3 3 7 4 4 8");
        costsAre(x, -49, "2 3 1 8 7 9", "3 4 8 4 5 9");
        costsAre(x, -48, "3 4 1 7 6 9", "1 2 4 2 3 5");
        costsAre(x, -47, "4 5 1 6 5 9", "2 3 6 3 4 7");
        costsAre(x, -33, "5 5 0 5 5 10", "3 3 7 4 4 8");
        costsAre(x, -32, "5 5 0 5 5 10", "1 1 3 2 2 4");
        costsAre(x, -1, "5 5 0 5 5 10", "1 1 3 2 2 4");
        costsAre(x, 0, "5 6 1 5 4 9", "1 2 4 2 3 5");
        costsAre(x, 47, "6 7 1 4 3 9", "1 2 4 2 3 5");
        costsAre(x, 48, "7 8 1 3 2 9", "1 2 4 2 3 5");
        costsAre(x, 49, "8 8 0 2 2 10", "2 2 5 3 3 6");
        costsAre(x, 63, "9 10 1 1 0 9", "3 4 8 4 5 9");
        checks.start("6: without values");
        Bitmapstore none = Stores.ofColumn(NULL, NULL);
        costsAre(none, -64, "0 0 0 0 0 0", "1 1 3 2 2 4");
        costsAre(none, 63, "0 0 0 0 0 0", "1 1 3 2 2 4");
        costsAre(new Bitmapstore(), 0, "0 0 0 0 0 0", "1 1 3 2 2 4");
        checks.start("6: The tests 6 and 7 cost 1 by each way");
        for (Bitmapstore one : new Bitmapstore[] {x, none, new Bitmapstore()}) {
            for (int test = 6; test < 8; test++) {
                for (int number : new int[] {-64, 0, 63}) {
                    int condition = one.addCondition(0, test, number);
                    for (int way = 0; way < 3; way++) {
                        checks.due("test " + test, one.cost(condition, way), 1);
                    }
                    one.dropCondition(condition);
                }
            }
        }
    }

    /** Values from a number on, one behind the other. */
    private static Bitmapstore ofRange(int from, int many) {
        int[] values = new int[many];
        for (int i = 0; i < many; i++) {
            values[i] = from + i;
        }
        return Stores.ofColumn(values);
    }

    private static void bestIs(String call, Bitmapstore x, int test, int number, int want) {
        int condition = x.addCondition(0, test, number);
        checks.due(call, x.conditionAt(condition, 4), want);
        x.dropCondition(condition);
    }

    private static void bestWays() {
        checks.start("6: of like ones the first one (values, bounds, digits)");
        Bitmapstore empty = new Bitmapstore();
        bestIs("1 by each way", empty, 6, 0, VALUES);
        bestIs("1 by each way", empty, 7, 0, VALUES);
        bestIs("values 1, bounds 1", Stores.ofColumn(-64), 0, -48, VALUES);
        bestIs("values 2, bounds 1", Stores.ofColumn(-64, -63), 0, -48, BOUNDS);
        bestIs("values 1, bounds 2", Stores.ofColumn(-64), 0, -49, VALUES);
        bestIs("values 14, digits 14", ofRange(0, 14), 0, 14, VALUES);
        bestIs("values 15, bounds 15, digits 14", ofRange(-1, 15), 0, 14, DIGITS);
        bestIs("values 14, bounds 14, digits 14", ofRange(-1, 14), 0, 13, VALUES);
        bestIs("values 15, bounds 14, digits 14", ofRange(-2, 15), 0, 13, BOUNDS);
        bestIs("values 16, bounds 15, digits 14", ofRange(-2, 16), 0, 14, DIGITS);
        bestIs("values 9, bounds 8, digits 8", Stores.ofColumn(0, 1, -1, -2, -3, -4, -5, -6, -7),
                5, 2, BOUNDS);
        bestIs("values 8, bounds 8, digits 8", Stores.ofColumn(0, 1, -1, -2, -3, -4, -5, -6),
                5, 2, VALUES);
        bestIs("values 9, bounds 10, digits 8",
                Stores.ofColumn(0, 1, 2, -2, -3, -4, -5, -6, -7), 5, 3, DIGITS);
        bestIs("without values", Stores.ofColumn(NULL), 4, 63, VALUES);
    }

    private static void planOrder() {
        checks.start("6: that the fewest rows satisfy comes first, of like ones the lesser number");
        Bitmapstore x = Stores.ofColumn(1, 2, 3, 4, NULL);
        int[][] asked = {{0, 2, 1}, {0, 0, 0}, {0, 2, 4}, {0, 6, 0}};
        int[] satisfying = {1, 0, 1, 1};
        int[] places = {1, 0, 2, 3};
        for (int[] one : asked) {
            x.addCondition(one[0], one[1], one[2]);
        }
        for (int condition = 0; condition < 4; condition++) {
            checks.due("rows that satisfy " + condition, x.conditionAt(condition, 3),
                    satisfying[condition]);
            checks.due("place of " + condition, x.conditionAt(condition, 5), places[condition]);
        }
        Bitmapstore alike = new Bitmapstore();
        for (int condition = 0; condition < 4; condition++) {
            alike.addCondition(condition, condition, 0);
        }
        for (int condition = 0; condition < 4; condition++) {
            checks.due("without rows", alike.conditionAt(condition, 3), 0);
            checks.due("all alike", alike.conditionAt(condition, 5), condition);
        }
        Bitmapstore full = Stores.full();
        full.addCondition(2, 6, 0);
        full.addCondition(0, 1, 54);
        full.addCondition(0, 5, -64);
        full.addCondition(0, 0, -63);
        int[] many = {120, 119, 119, 1};
        int[] order = {3, 1, 2, 0};
        for (int condition = 0; condition < 4; condition++) {
            checks.due("of 120 rows", full.conditionAt(condition, 3), many[condition]);
            checks.due("place of " + condition, full.conditionAt(condition, 5), order[condition]);
        }
        full.dropCondition(3);
        full.dropCondition(2);
        full.dropCondition(1);
        checks.due("the place of the only one", full.conditionAt(0, 5), 0);
    }

    private static void planCost() {
        checks.start("promise 50: 0 without conditions");
        Bitmapstore x = Stores.full();
        checks.due("without conditions", x.planCost(), 0);
        checks.due("without rows", new Bitmapstore().planCost(), 0);
        checks.start("6: and 1 more for each condition but one");
        int[] due = {1, 3, 5, 7};
        for (int condition = 0; condition < 4; condition++) {
            x.addCondition(condition, 6 + condition % 2, 0);
            checks.due(condition + 1 + " conditions", x.planCost(), due[condition]);
        }
        for (int left = 3; left >= 1; left--) {
            x.dropCondition(0);
            checks.due(left + " conditions", x.planCost(), due[left - 1]);
        }
        x.dropCondition(0);
        checks.due("none left", x.planCost(), 0);
        Bitmapstore empty = new Bitmapstore();
        empty.addCondition(0, 0, 0);
        checks.due("a condition that costs nothing", empty.planCost(), 0);
        empty.addCondition(0, 0, 0);
        checks.due("two of these", empty.planCost(), 1);
        Bitmapstore full = Stores.full();
        full.addCondition(0, 5, 15);
        full.addCondition(0, 2, 0);
        full.addCondition(0, 0, -48);
        full.addCondition(0, 0, -50);
        checks.due("digits 8, values 1, bounds 1, digits or values 14", full.planCost(), 27);
    }

    // ---- changes

    private static void undone() {
        checks.start("promise 22: IllegalStateException if there is none");
        Bitmapstore x = new Bitmapstore();
        checks.dueState("at first", () -> x.undo());
        checks.dueArgument("refused", () -> x.addRow(64, 0, 0, 0));
        checks.dueState("a call that throws is no change", () -> x.undo());
        x.addRow(1, 1, 1, 1);
        checks.due("one change", x.undo(), 0);
        checks.dueState("it is undone", () -> x.undo());
        checks.due("rows", x.rows(), 0);
        checks.start("promise 22: the latest change that was not undone");
        x.addCondition(0, 0, 1);
        x.addCondition(0, 0, 2);
        x.addCondition(0, 0, 3);
        checks.due("the third one", x.undo(), 2);
        checks.due("the second one, not the first undo", x.undo(), 1);
        checks.due("conditions", x.conditions(), 1);
        x.addCondition(0, 0, 4);
        checks.due("the new one", x.undo(), 1);
        checks.dueText("the first one is left", Stores.condition(x, 0), "0 0 1");
        checks.due("the first one", x.undo(), 0);
        checks.dueState("none", () -> x.undo());
    }

    private static void undoneLimits() {
        checks.start("7: The latest 8 changes can be undone");
        for (int changes = 1; changes <= 20; changes++) {
            Bitmapstore x = new Bitmapstore();
            for (int i = 0; i < changes; i++) {
                x.addRow(i, i, i, i);
            }
            int most = Math.min(changes, 8);
            for (int left = most - 1; left >= 0; left--) {
                checks.due("left of " + changes, x.undo(), left);
                checks.due("rows of " + changes, x.rows(), changes - most + left);
            }
            checks.dueState("none left of " + changes, () -> x.undo());
            checks.due("rows of " + changes + " still", x.rows(), changes - most);
            checks.due("the next row", x.addRow(0, 0, 0, 0), changes - most);
            checks.due("its undo", x.undo(), 0);
        }
        Bitmapstore x = new Bitmapstore();
        for (int i = 0; i < 8; i++) {
            x.addRow(i, i, i, i);
        }
        for (int i = 0; i < 20; i++) {
            checks.dueArgument("refused", () -> x.addRow(0, 0, 0, 64));
            checks.dueIndex("refused", () -> x.strike(8));
            checks.dueIndex("refused", () -> x.copyOf(0, 8));
        }
        for (int i = 0; i < 3; i++) {
            x.undo();
        }
        for (int i = 0; i < 4; i++) {
            x.addCondition(i, 0, 0);
        }
        int[] conditions = {3, 2, 1, 0, 0, 0, 0, 0};
        int[] rows = {5, 5, 5, 5, 4, 3, 2, 1};
        for (int i = 0; i < 8; i++) {
            checks.due("three undone, four more", x.undo(), 7 - i);
            checks.due("rows", x.rows(), rows[i]);
            checks.due("conditions", x.conditions(), conditions[i]);
        }
        checks.dueState("the oldest one can't be undone", () -> x.undo());
        undoneWhole();
    }

    private static void undoneWhole() {
        checks.start("7: rows, filters, packed sets and conditions are then as they were");
        Bitmapstore x = Stores.full();
        for (int filter = 0; filter < 8; filter++) {
            x.contrary(filter);
        }
        x.contraryPacked(3);
        String ahead = Stores.state(x) + Stores.kept(x);
        x.strike(119);
        x.strike(0);
        x.addRow(1, 2, 3, 4);
        x.fill(5, 1, 64);
        x.setValue(64, 2, -64);
        x.sample(7, 1, 0);
        x.addCondition(0, 0, 0);
        x.contraryPacked(3);
        for (int left = 7; left >= 0; left--) {
            checks.due("left", x.undo(), left);
        }
        checks.dueText("all", Stores.state(x) + Stores.kept(x), ahead);
        checks.due("errors", x.errors(), 0);
        checks.dueState("120 rows again", () -> x.addRow(0, 0, 0, 0));
        checks.dueState("no more", () -> x.undo());
    }
}
