import java.lang.reflect.InvocationTargetException;
import java.lang.reflect.Method;
import java.util.ArrayList;
import java.util.Arrays;
import java.util.HashMap;
import java.util.List;
import java.util.Map;
import java.util.NoSuchElementException;

/**
 * Each call with each of its arguments just too small, just too large and far out of range, and
 * with each two of them wrong: which exception is thrown, and that nothing is changed by it, not
 * even what can be undone. Then the calls that the state refuses, and that fine calls are changes
 * if they stand under "Changes", and otherwise change nothing.
 */
public final class RefusalTest {
    /**
     * The calls under "Changes", with the kinds of their arguments: the names of the things that
     * are numbered; a range; a cell (a value or NULL); "from0" for a number from 0 on; "any" for
     * any int; a flag; "=5" for what is always 5.
     */
    private static final String[] CHANGES = {
        "addRow cell cell cell cell", "fill any 1..20 1..64", "setValue row column cell",
        "strike row", "select filter column 0..7 -64..63 0..2",
        "between filter column -64..63 -64..63", "compare filter column 0..5 column",
        "combine filter 0..3 filter", "contrary filter", "copyOf filter filter",
        "put filter row flag", "sample filter any 0..120",
        "partners filter column filter column filter", "runPlan filter", "unpack filter packed",
        "pack packed filter", "combinePacked packed 0..3 packed", "contraryPacked packed",
        "addCondition column 0..7 -64..63", "dropCondition condition",
    };

    private static final String[] QUESTIONS = {
        "rows", "nextRow from0", "valueAt row column", "values column", "outermost column flag",
        "beside column any flag", "kept column =0 -64..63", "kept column =1 0..7",
        "kept column =2 0..7", "kept column 0..2 =0", "count filter",
        "countIn filter from0 =2147483647", "countIn filter =0 from0", "has filter from0",
        "next filter from0 flag", "relation filter filter", "union filter filter filter",
        "sum filter column", "least filter column any", "middle filter column",
        "top filter column any", "unlike filter column", "join column filter column filter",
        "groupAt group 0..4", "runs packed", "runAt packed run flag", "hasPacked packed any",
        "conditions", "conditionAt condition 0..5", "cost condition 0..2", "planCost",
        "mean filter column", "share filter", "errors",
    };

    /** It puts other groups in the place of those that are kept, but is no change. */
    private static final String ROLLUP = "rollup filter 1..15";

    private static final Checks checks = new Checks("RefusalTest");
    private static final Map<String, Method> methods = new HashMap<>();
    private static final String asMade = Stores.everything(made());
    private static final int groups = Stores.groups(made()).split(", ").length;

    /** An argument of a call: whether it is wrong, and which exception is due then. */
    private record Kind(String name) {
        boolean isFree() {
            return name.equals("any") || name.equals("flag") || name.startsWith("=");
        }

        boolean isArgument() {
            return name.equals("cell") || name.contains("..");
        }

        Class<?> exception() {
            return isArgument() ? IllegalArgumentException.class : IndexOutOfBoundsException.class;
        }

        int low() {
            boolean isRange = name.contains("..");
            return isRange ? Integer.parseInt(name.split("\\.\\.")[0]) : name.equals("cell") ? -64 : 0;
        }

        int high() {
            switch (name) {
                case "cell": return 63;
                case "row": return 98;
                case "column": case "packed": return 3;
                case "filter": return 7;
                case "condition": return 2;
                case "group": return groups - 1;
                case "run": return 1;
                case "from0": return Stores.MAX;
                default: return Integer.parseInt(name.split("\\.\\.")[1]);
            }
        }

        boolean isFine(int number) {
            boolean isStruck = name.equals("row") && number == 40;
            boolean isNull = name.equals("cell") && number == Stores.NULL;
            return isNull || number >= low() && number <= high() && !isStruck;
        }

        Object fine() {
            if (name.equals("flag")) {
                return true;
            }
            return name.startsWith("=") ? Integer.parseInt(name.substring(1))
                    : name.equals("any") ? 5 : low() + (high() - low()) / 2;
        }

        /** Just outside, far outside, and such as a mask or a shorter number would take. */
        List<Integer> wrong() {
            List<Integer> found = new ArrayList<>();
            int fine = (Integer) fine();
            for (int number : new int[] {low() - 1, high() + 1, Stores.MIN, Stores.MAX, 40, 99, 101,
                fine + 8, fine - 8, fine + 16, fine + 64, fine + 128, fine - 128, fine + 256,
                fine - 256, fine + 65536, fine + Stores.MIN}) {
                if (!isFine(number) && !found.contains(number)) {
                    found.add(number);
                }
            }
            return found;
        }
    }

    public static void main(String[] args) {
        for (Method method : Bitmapstore.class.getMethods()) {
            methods.put(method.getName(), method);
        }
        for (String[] table : new String[][] {CHANGES, QUESTIONS, {ROLLUP}}) {
            for (String line : table) {
                oneWrongArgument(line);
                twoWrongArguments(line);
            }
        }
        fineChanges();
        fineQuestions();
        refusedByState();
        checks.finish();
    }

    /** Rows up to 98 without 40, filters, packed sets, three conditions; eight changes to undo. */
    private static Bitmapstore made() {
        Bitmapstore x = new Bitmapstore();
        for (int i = 1; i <= 4; i++) {
            x.fill(i, 20, 16 * i);
        }
        x.fill(5, 19, 5);
        x.strike(40);
        x.contrary(3);
        x.pack(0, 3);
        x.pack(3, 3);
        x.select(4, 0, 3, 0, 0);
        x.addCondition(0, 0, 20);
        x.addCondition(1, 5, 3);
        x.pack(1, 3);
        x.select(5, 1, 6, 0, 1);
        x.addCondition(3, 3, -40);
        x.copyOf(6, 4);
        x.sample(6, 3, 9);
        x.undo();
        x.sample(6, 4, 8);
        x.rollup(6, 3);
        return x;
    }

    private static List<Kind> kindsOf(String line) {
        return Arrays.stream(line.split(" ")).skip(1).map(Kind::new).toList();
    }

    private static Object[] fine(List<Kind> kinds) {
        return kinds.stream().map(Kind::fine).toArray();
    }

    /** The answer, or the class of the exception. */
    private static Object answer(Bitmapstore x, String line, Object[] arguments) {
        try {
            return methods.get(line.split(" ")[0]).invoke(x, arguments);
        } catch (InvocationTargetException e) {
            return e.getCause().getClass();
        } catch (IllegalAccessException e) {
            throw new IllegalStateException(e);
        }
    }

    private static String textOf(String line, Object[] arguments) {
        return line.split(" ")[0] + Arrays.toString(arguments);
    }

    private static void isRefused(String line, Object[] arguments, Class<?> want) {
        Bitmapstore x = made();
        String call = textOf(line, arguments);
        checks.dueText(call, answer(x, line, arguments).toString(), want.toString());
        changedNothing(call, x);
    }

    private static void changedNothing(String call, Bitmapstore x) {
        checks.due(call + " changes nothing", Stores.everything(x).equals(asMade), true);
    }

    private static void oneWrongArgument(String line) {
        checks.start("an argument out of range");
        List<Kind> kinds = kindsOf(line);
        for (int i = 0; i < kinds.size(); i++) {
            if (!kinds.get(i).isFree()) {
                for (int number : kinds.get(i).wrong()) {
                    Object[] arguments = fine(kinds);
                    arguments[i] = number;
                    isRefused(line, arguments, kinds.get(i).exception());
                }
            }
        }
    }

    /** IndexOutOfBoundsException is listed first, whatever the order of the arguments. */
    private static void twoWrongArguments(String line) {
        checks.start("two arguments out of range");
        List<Kind> kinds = kindsOf(line);
        for (int i = 0; i < kinds.size(); i++) {
            for (int j = i + 1; j < kinds.size(); j++) {
                if (!kinds.get(i).isFree() && !kinds.get(j).isFree()) {
                    Object[] arguments = fine(kinds);
                    arguments[i] = kinds.get(i).wrong().get(0);
                    arguments[j] = kinds.get(j).wrong().get(0);
                    boolean isArgument = kinds.get(i).isArgument() && kinds.get(j).isArgument();
                    isRefused(line, arguments, isArgument ? IllegalArgumentException.class
                            : IndexOutOfBoundsException.class);
                }
            }
        }
    }

    /** All fine arguments, then each one at both of its ends. */
    private static List<Object[]> fineArguments(String line) {
        List<Kind> kinds = kindsOf(line);
        List<Object[]> found = new ArrayList<>();
        found.add(fine(kinds));
        for (int i = 0; i < kinds.size(); i++) {
            String name = kinds.get(i).name();
            List<Object> ends = name.equals("flag") ? List.of(true, false)
                    : name.equals("any") ? List.of(Stores.MIN, -1, 0, Stores.MAX)
                    : kinds.get(i).isFree() ? List.of()
                    : List.of(kinds.get(i).low(), kinds.get(i).high());
            for (Object end : ends) {
                Object[] arguments = fine(kinds);
                arguments[i] = end;
                found.add(arguments);
            }
        }
        return found;
    }

    /** Each one can be undone; it takes the place of the oldest one of eight, which can't be. */
    private static void fineChanges() {
        checks.start("fine changes");
        String ahead = Stores.state(made());
        String history = Stores.history(made());
        String sevenLatest = history.substring(0, history.indexOf("0 left"));
        for (String line : CHANGES) {
            for (Object[] arguments : fineArguments(line)) {
                Bitmapstore x = made();
                String call = textOf(line, arguments);
                checks.due(call + " answers", answer(x, line, arguments) instanceof Class, false);
                checks.due(call + " is a change", x.undo(), 7);
                checks.due(call + " is undone", Stores.state(x).equals(ahead), true);
                checks.due(call + " leaves the seven ahead of it",
                        withoutCounts(Stores.history(x)).equals(withoutCounts(sevenLatest)), true);
                checks.due(call + ": groups are not brought back",
                        Stores.groups(x).equals(Stores.groups(made())), true);
            }
        }
    }

    private static String withoutCounts(String history) {
        return history.replaceAll("\\d left\n", "");
    }

    private static void fineQuestions() {
        checks.start("questions");
        for (String line : QUESTIONS) {
            for (Object[] arguments : fineArguments(line)) {
                Bitmapstore x = made();
                String call = textOf(line, arguments);
                checks.due(call + " answers", answer(x, line, arguments) instanceof Class, false);
                changedNothing(call, x);
            }
        }
        for (Object[] arguments : fineArguments(ROLLUP)) {
            Bitmapstore x = made();
            String call = textOf(ROLLUP, arguments);
            checks.due(call + " answers", answer(x, ROLLUP, arguments) instanceof Class, false);
            checks.due(call + " changes only the groups",
                    (Stores.state(x) + Stores.kept(x) + Stores.history(x)).equals(
                            Stores.state(made()) + Stores.kept(made()) + Stores.history(made())),
                    true);
        }
    }

    // ---- what the state refuses

    private static void refused(String call, Class<? extends RuntimeException> want,
            Bitmapstore x, Bitmapstore alike, Checks.Call made) {
        checks.dueThrow(call, want, made);
        checks.due(call + " changes nothing",
                Stores.everything(x).equals(Stores.everything(alike)), true);
    }

    private static void refusedByState() {
        checks.start("refused by the state");
        for (int[] last : new int[][] {{0, 0, 0, 0}, {100, 100, 100, 100}, {-64, 63, 100, 0}}) {
            Bitmapstore x = rolled(Stores.full());
            refused("addRow with 120 rows", IllegalStateException.class, x, rolled(Stores.full()),
                    () -> x.addRow(last[0], last[1], last[2], last[3]));
        }
        for (int free = 0; free < 20; free++) {
            Bitmapstore x = withFree(free);
            int many = free + 1;
            refused("fill with " + many + " of " + free + " free rows", IllegalStateException.class,
                    x, withFree(free), () -> x.fill(1, many, 1));
        }
        Bitmapstore four = withFourConditions();
        refused("addCondition with four", IllegalStateException.class, four, withFourConditions(),
                () -> four.addCondition(0, 0, 0));
        Bitmapstore unfilled = Stores.ofColumn(1, 2);
        refused("outermost of a column without values", NoSuchElementException.class, unfilled,
                Stores.ofColumn(1, 2), () -> unfilled.outermost(1, true));
        Bitmapstore fresh = new Bitmapstore();
        refused("undo without changes", IllegalStateException.class, fresh, new Bitmapstore(),
                () -> fresh.undo());
        refusedInOrder();
    }

    /** The exception that is listed first is thrown, also if the state refuses the call. */
    private static void refusedInOrder() {
        checks.start("the exception that is listed first");
        Bitmapstore full = Stores.full();
        checks.dueArgument("addRow, first", () -> full.addRow(64, 0, 0, 0));
        checks.dueArgument("addRow, second", () -> full.addRow(0, -65, 0, 0));
        checks.dueArgument("addRow, third", () -> full.addRow(0, 0, 101, 0));
        checks.dueArgument("addRow, fourth", () -> full.addRow(0, 0, 0, 99));
        checks.dueArgument("fill, many too small", () -> full.fill(0, 0, 1));
        checks.dueArgument("fill, many too large", () -> full.fill(0, 21, 1));
        checks.dueArgument("fill, many far too large", () -> full.fill(0, Stores.MAX, 1));
        checks.dueArgument("fill, spread too small", () -> full.fill(0, 1, 0));
        checks.dueArgument("fill, spread too large", () -> full.fill(0, 1, 65));
        Bitmapstore four = withFourConditions();
        checks.dueIndex("addCondition, column", () -> four.addCondition(4, 0, 0));
        checks.dueIndex("addCondition, column and test", () -> four.addCondition(-1, 8, 0));
        checks.dueIndex("addCondition, column and number", () -> four.addCondition(4, 0, 64));
        checks.dueArgument("addCondition, test", () -> four.addCondition(0, 8, 0));
        checks.dueArgument("addCondition, number", () -> four.addCondition(0, 0, -65));
        Bitmapstore fresh = new Bitmapstore();
        checks.dueIndex("outermost, column", () -> fresh.outermost(4, true));
        checks.dueIndex("outermost, column below 0", () -> fresh.outermost(-1, false));
        checks.dueIndex("groupAt, no groups, and what", () -> fresh.groupAt(0, 5));
        checks.dueIndex("conditionAt, no conditions, and what", () -> fresh.conditionAt(0, 6));
        checks.dueIndex("cost, no conditions, and way", () -> fresh.cost(0, 3));
        checks.dueIndex("setValue, no rows, and value", () -> fresh.setValue(0, 0, 64));
    }

    private static Bitmapstore rolled(Bitmapstore x) {
        x.contrary(0);
        x.rollup(0, 8);
        return x;
    }

    private static Bitmapstore withFree(int free) {
        Bitmapstore x = rolled(Stores.full());
        for (int row = 0; row < free; row++) {
            x.strike(5 * row);
        }
        return x;
    }

    private static Bitmapstore withFourConditions() {
        Bitmapstore x = Stores.ofColumn(5, 6, 7);
        x.addCondition(0, 0, 6);
        x.addCondition(0, 1, 6);
        x.addCondition(0, 6, 63);
        x.addCondition(3, 7, -64);
        return x;
    }
}
