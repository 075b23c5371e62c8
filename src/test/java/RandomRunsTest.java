import java.lang.reflect.InvocationTargetException;
import java.lang.reflect.Method;
import java.util.Arrays;
import java.util.HashMap;
import java.util.Map;
import java.util.SplittableRandom;

/** Runs of 512 drawn calls, the same for each run of the test, answered by the class and the model. */
public final class RandomRunsTest {
    private static final int RUNS = 400;
    private static final int CALLS = 512;

    /** How often the call is made, its name, the kinds of its arguments. */
    private static final String[] CALL_TABLE = {
        "14 addRow cell cell cell cell", "6 fill seed many spread", "14 setValue row column cell",
        "7 strike row", "20 select filter column test number way",
        "8 between filter column number number", "8 compare filter column test filterColumn",
        "8 combine filter operation filter", "4 contrary filter", "5 copyOf filter filter",
        "8 put filter row flag", "5 sample filter seed sampleSize",
        "5 partners filter column filter column filter", "6 runPlan filter",
        "5 unpack filter packed", "8 pack packed filter", "6 combinePacked packed operation packed",
        "4 contraryPacked packed", "10 addCondition column test number",
        "4 dropCondition condition", "14 undo", "2 rows", "4 nextRow any", "6 valueAt row column",
        "3 values column", "3 outermost column flag", "5 beside column any flag",
        "8 kept column way which", "3 count filter", "5 countIn filter any any",
        "4 has filter any", "6 next filter any flag", "4 relation filter filter",
        "4 union filter filter filter", "4 sum filter column", "6 least filter column place",
        "3 middle filter column", "6 top filter column place", "3 unlike filter column",
        "5 join column filter column filter", "5 rollup filter columns", "12 groupAt group groupWhat",
        "2 runs packed", "6 runAt packed run flag", "4 hasPacked packed any", "1 conditions",
        "10 conditionAt condition what", "6 cost condition way", "4 planCost",
        "3 mean filter column", "3 share filter", "1 errors",
    };

    private static final Checks checks = new Checks("RandomRunsTest");
    private static final Map<String, Method> ours = methodsOf(Bitmapstore.class);
    private static final Map<String, Method> models = methodsOf(Model.class);

    private final SplittableRandom draws;
    private final int spread;
    private final Bitmapstore store = new Bitmapstore();
    private final Model model = new Model();

    private RandomRunsTest(int run) {
        draws = new SplittableRandom(run);
        spread = new int[] {2, 6, 20, 64}[run % 4];
        checks.start("run " + run);
    }

    public static void main(String[] args) throws Exception {
        for (int run = 0; run < RUNS; run++) {
            new RandomRunsTest(run).calls();
        }
        checks.finish();
    }

    private static Map<String, Method> methodsOf(Class<?> type) {
        Map<String, Method> found = new HashMap<>();
        for (Method method : type.getDeclaredMethods()) {
            boolean isCall = Arrays.stream(CALL_TABLE)
                    .anyMatch(line -> line.split(" ")[1].equals(method.getName()));
            if (isCall && !java.lang.reflect.Modifier.isPrivate(method.getModifiers())) {
                found.put(method.getName(), method);
            }
        }
        return found;
    }

    private void calls() throws Exception {
        for (int i = 0; i < CALLS; i++) {
            boolean hasThrown = call(drawnCall());
            if (hasThrown || i % 16 == 0) {
                lookAtAll();
            }
        }
    }

    private String[] drawnCall() {
        int total = 0;
        for (String line : CALL_TABLE) {
            total += Integer.parseInt(line.split(" ")[0]);
        }
        int left = draws.nextInt(total);
        for (String line : CALL_TABLE) {
            String[] words = line.split(" ");
            left -= Integer.parseInt(words[0]);
            if (left < 0) {
                return words;
            }
        }
        throw new IllegalStateException();
    }

    private boolean call(String[] words) throws Exception {
        Object[] arguments = new Object[words.length - 2];
        for (int i = 0; i < arguments.length; i++) {
            arguments[i] = argument(words[i + 2]);
        }
        Object got = answer(ours.get(words[1]), store, arguments);
        Object want = answer(models.get(words[1]), model, arguments);
        String text = words[1] + Arrays.toString(arguments);
        checks.due(text, got.equals(want), true);
        if (!got.equals(want)) {
            checks.tell(text + " answered " + got + ", due is " + want);
        }
        return want instanceof Class;
    }

    /** The answer, or the class of the exception. */
    private static Object answer(Method method, Object object, Object[] arguments) throws Exception {
        try {
            return method.invoke(object, arguments);
        } catch (InvocationTargetException e) {
            return e.getCause().getClass();
        }
    }

    private Object argument(String kind) {
        if (kind.equals("flag")) {
            return draws.nextBoolean();
        }
        if (kind.equals("seed")) {
            return draws.nextInt();
        }
        if (draws.nextInt(40) == 0) {
            int[] odd = {-1, 4, 8, 120, 121, 64, -65, 99, 100, 101, 102, 3, 5, 6, 7, 16, 21, 0,
                Integer.MAX_VALUE, Integer.MIN_VALUE};
            return odd[draws.nextInt(odd.length)];
        }
        switch (kind) {
            case "cell": return draws.nextInt(6) == 0 ? 100 : value();
            case "number": return value();
            case "row": return draws.nextInt(4) == 0 ? draws.nextInt(120)
                    : draws.nextInt(Math.max(model.rows(), 1));
            case "column": case "filterColumn": case "packed": case "operation":
                return draws.nextInt(4);
            case "filter": return draws.nextInt(8);
            case "test": return draws.nextInt(8);
            case "way": return draws.nextInt(3);
            case "which": return draws.nextInt(3) == 0 ? value() : draws.nextInt(8);
            case "many": return 1 + draws.nextInt(20);
            case "spread": return Math.min(64, 1 + draws.nextInt(spread));
            case "sampleSize": return draws.nextInt(121);
            case "any": return draws.nextInt(-8, 130);
            case "place": return draws.nextInt(-1, Math.max(model.rows(), 1));
            case "columns": return 1 + draws.nextInt(15);
            case "group": return draws.nextInt(draws.nextBoolean() ? 6 : 300);
            case "groupWhat": return draws.nextInt(5);
            case "run": return draws.nextInt(6);
            case "condition": return draws.nextInt(Math.max(model.conditions(), 1));
            case "what": return draws.nextInt(6);
            default: throw new IllegalStateException(kind);
        }
    }

    private int value() {
        return Math.max(-64, Math.min(63, draws.nextInt(2 * spread + 1) - spread));
    }

    /** A call that throws changes nothing, and no call changes more than it should. */
    private void lookAtAll() {
        checks.due("rows()", store.rows(), model.rows());
        for (int row = store.nextRow(0); row != Bitmapstore.NONE; row = store.nextRow(row + 1)) {
            for (int column = 0; column < 4; column++) {
                checks.due("valueAt(" + row + ", " + column + ")",
                        store.valueAt(row, column), model.valueAt(row, column));
            }
        }
        for (int number = 0; number < 120; number++) {
            checks.due("nextRow(" + number + ")", store.nextRow(number), model.nextRow(number));
            for (int filter = 0; filter < 8; filter++) {
                checks.due("has(" + filter + ", " + number + ")",
                        store.has(filter, number), model.has(filter, number));
            }
            for (int packed = 0; packed < 4; packed++) {
                checks.due("hasPacked(" + packed + ", " + number + ")",
                        store.hasPacked(packed, number), model.hasPacked(packed, number));
            }
        }
        checks.due("conditions()", store.conditions(), model.conditions());
        for (int condition = 0; condition < store.conditions(); condition++) {
            for (int what = 0; what < 3; what++) {
                checks.due("conditionAt(" + condition + ", " + what + ")",
                        store.conditionAt(condition, what), model.conditionAt(condition, what));
            }
        }
        checks.due("errors()", store.errors(), 0);
    }
}
