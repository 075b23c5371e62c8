import java.io.IOException;
import java.lang.reflect.Constructor;
import java.lang.reflect.Field;
import java.lang.reflect.Method;
import java.lang.reflect.Modifier;
import java.nio.file.Files;
import java.nio.file.Path;
import java.util.Arrays;
import java.util.List;
import java.util.Map;
import java.util.Set;
import java.util.TreeSet;
import java.util.regex.Pattern;
import java.util.stream.Collectors;

/** The class has the document's face and no other one, and keeps to what LANGUAGE.md forbids. */
public final class FaceTest {
    /** Each method with the exceptions that it names, in their order. */
    private static final String[] FACE = {
        "int addRow(int, int, int, int): Argument State", "int fill(int, int, int): Argument State",
        "int setValue(int, int, int): Index Argument", "int strike(int): Index",
        "int select(int, int, int, int, int): Index Argument",
        "int between(int, int, int, int): Index Argument",
        "int compare(int, int, int, int): Index Argument",
        "int combine(int, int, int): Index Argument", "int contrary(int): Index",
        "int copyOf(int, int): Index", "boolean put(int, int, boolean): Index",
        "int sample(int, int, int): Index Argument", "int partners(int, int, int, int, int): Index",
        "int runPlan(int): Index", "int unpack(int, int): Index", "int pack(int, int): Index",
        "int combinePacked(int, int, int): Index Argument", "int contraryPacked(int): Index",
        "int addCondition(int, int, int): Index Argument State", "int dropCondition(int): Index",
        "int undo(): State", "int rows()", "int nextRow(int): Index",
        "int valueAt(int, int): Index", "int values(int): Index",
        "int outermost(int, boolean): Index Element", "int beside(int, int, boolean): Index",
        "int kept(int, int, int): Index Argument", "int count(int): Index",
        "int countIn(int, int, int): Index", "boolean has(int, int): Index",
        "int next(int, int, boolean): Index", "int relation(int, int): Index",
        "int union(int, int, int): Index", "int sum(int, int): Index",
        "int least(int, int, int): Index", "int middle(int, int): Index",
        "int top(int, int, int): Index", "int unlike(int, int): Index",
        "int join(int, int, int, int): Index", "int rollup(int, int): Index Argument",
        "int groupAt(int, int): Index Argument", "int runs(int): Index",
        "int runAt(int, int, boolean): Index", "boolean hasPacked(int, int): Index",
        "int conditions()", "int conditionAt(int, int): Index Argument",
        "int cost(int, int): Index Argument", "int planCost()", "double mean(int, int): Index",
        "float share(int): Index", "int errors()",
    };

    private static final Map<String, String> SHORT_NAMES = Map.of(
            "IndexOutOfBoundsException", "Index", "IllegalArgumentException", "Argument",
            "IllegalStateException", "State", "NoSuchElementException", "Element");

    private static final String[] CONSTANTS = {
        "NONE", "NULL", "ALL", "VALUES", "BOUNDS", "DIGITS", "AND", "OR", "XOR", "AND_NOT",
    };

    /** What rules 2, 4, 6 and 13 rule out, as it would stand in the program's text. */
    private static final String[] FORBIDDEN = {
        "->", "::", "\\btry\\b", "\\bcatch\\b", "\\bfinally\\b", "\\bassert\\b", "\\bsynchronized\\b",
        "Exact\\(", "\\bRandom\\b", "\\bSystem\\.(?!arraycopy)", "\\bThread\\b", "\\bvar\\b",
        "^package ", "^import (?!java\\.util\\.NoSuchElementException;)", "\\bNaN\\b",
    };

    private static final Checks checks = new Checks("FaceTest");

    public static void main(String[] args) throws IOException {
        lookAtMembers();
        lookAtClassesInside();
        Path root = Path.of(System.getProperty("root", "."));
        lookAtText(Files.readAllLines(root.resolve("src/main/java/Bitmapstore.java")));
        checks.finish();
    }

    private static String textOf(Method method) {
        String parameters = Arrays.stream(method.getParameterTypes()).map(Class::getName)
                .collect(Collectors.joining(", "));
        String exceptions = Arrays.stream(method.getExceptionTypes())
                .map(type -> SHORT_NAMES.getOrDefault(type.getSimpleName(), type.getName()))
                .collect(Collectors.joining(" "));
        return method.getReturnType().getName() + " " + method.getName() + "(" + parameters + ")"
                + (exceptions.isEmpty() ? "" : ": " + exceptions);
    }

    private static void lookAtMembers() {
        checks.start("members");
        Set<String> open = new TreeSet<>();
        Set<String> names = new TreeSet<>();
        for (Method method : Bitmapstore.class.getDeclaredMethods()) {
            if (!Modifier.isPrivate(method.getModifiers())) {
                open.add(textOf(method));
                names.add(method.getName());
                checks.dueText(method.getName(), Modifier.toString(method.getModifiers()), "public");
            }
        }
        checks.due("the methods are those of the face",
                open.equals(new TreeSet<>(List.of(FACE))), true);
        for (Method method : Bitmapstore.class.getDeclaredMethods()) {
            boolean isHidden = Modifier.isPrivate(method.getModifiers());
            checks.due("a private method is named " + method.getName(),
                    isHidden && names.contains(method.getName()), false);
            checks.due(method.getName() + " takes at most seven parameters",
                    method.getParameterCount() <= 7, true);
        }
        Set<String> constants = new TreeSet<>();
        for (Field field : Bitmapstore.class.getDeclaredFields()) {
            if (!Modifier.isPrivate(field.getModifiers())) {
                constants.add(field.getName());
                checks.dueText(field.getName(), Modifier.toString(field.getModifiers()) + " "
                        + field.getType(), "public static final int");
            }
        }
        checks.due("the constants are those of the face",
                constants.equals(new TreeSet<>(List.of(CONSTANTS))), true);
        Constructor<?>[] made = Bitmapstore.class.getDeclaredConstructors();
        checks.due("constructors", made.length, 1);
        checks.due("the constructor is public and takes nothing",
                Modifier.isPublic(made[0].getModifiers()) && made[0].getParameterCount() == 0, true);
        checks.due("the class is final", Modifier.isFinal(Bitmapstore.class.getModifiers()), true);
    }

    private static void lookAtClassesInside() {
        checks.start("rules 2, 5 and 11");
        Class<?>[] inside = Bitmapstore.class.getDeclaredClasses();
        checks.due("at most twelve classes", inside.length < 12, true);
        for (Class<?> type : inside) {
            int modifiers = type.getModifiers();
            checks.due(type + " is static and not public",
                    Modifier.isStatic(modifiers) && !Modifier.isPublic(modifiers), true);
            long fields = Arrays.stream(type.getDeclaredFields())
                    .filter(field -> !Modifier.isStatic(field.getModifiers())).count();
            checks.due(type + " has at most twenty fields", fields <= 20, true);
            for (Method method : type.getDeclaredMethods()) {
                checks.due(method + " takes at most seven parameters",
                        method.getParameterCount() <= 7, true);
            }
            for (Field field : type.getDeclaredFields()) {
                boolean isOpenState = Modifier.isStatic(field.getModifiers())
                        && !Modifier.isFinal(field.getModifiers());
                checks.due(field + " is static state", isOpenState, false);
            }
        }
    }

    private static void lookAtText(List<String> lines) {
        checks.start("the program's text");
        for (String forbidden : FORBIDDEN) {
            Pattern pattern = Pattern.compile(forbidden);
            for (String line : lines) {
                checks.due(forbidden + " in '" + line.trim() + "'",
                        pattern.matcher(line).find(), false);
            }
        }
    }
}
