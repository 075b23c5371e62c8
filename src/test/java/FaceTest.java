import java.io.IOException;
import java.lang.reflect.Constructor;
import java.lang.reflect.Field;
import java.lang.reflect.Method;
import java.lang.reflect.Modifier;
import java.nio.file.Files;
import java.nio.file.Path;
import java.util.Arrays;
import java.util.List;
import java.util.Set;
import java.util.TreeSet;
import java.util.regex.Pattern;
import java.util.stream.Collectors;

/** The class has the document's face and no other one, and keeps to what LANGUAGE.md forbids. */
public final class FaceTest {
    private static final String[] FACE = {
        "int addRow(int, int, int, int)", "int fill(int, int, int)", "int setValue(int, int, int)",
        "int strike(int)", "int select(int, int, int, int, int)", "int between(int, int, int, int)",
        "int compare(int, int, int, int)", "int combine(int, int, int)", "int contrary(int)",
        "int copyOf(int, int)", "boolean put(int, int, boolean)", "int sample(int, int, int)",
        "int partners(int, int, int, int, int)", "int runPlan(int)", "int unpack(int, int)",
        "int pack(int, int)", "int combinePacked(int, int, int)", "int contraryPacked(int)",
        "int addCondition(int, int, int)", "int dropCondition(int)", "int undo()", "int rows()",
        "int nextRow(int)", "int valueAt(int, int)", "int values(int)",
        "int outermost(int, boolean)", "int beside(int, int, boolean)", "int kept(int, int, int)",
        "int count(int)", "int countIn(int, int, int)", "boolean has(int, int)",
        "int next(int, int, boolean)", "int relation(int, int)", "int union(int, int, int)",
        "int sum(int, int)", "int least(int, int, int)", "int middle(int, int)",
        "int top(int, int, int)", "int unlike(int, int)", "int join(int, int, int, int)",
        "int rollup(int, int)", "int groupAt(int, int)", "int runs(int)",
        "int runAt(int, int, boolean)", "boolean hasPacked(int, int)", "int conditions()",
        "int conditionAt(int, int)", "int cost(int, int)", "int planCost()",
        "double mean(int, int)", "float share(int)", "int errors()",
    };

    private static final String[] CONSTANTS = {
        "NONE", "NULL", "ALL", "VALUES", "BOUNDS", "DIGITS", "AND", "OR", "XOR", "AND_NOT",
    };

    /** What rules 2, 4, 6 and 13 rule out, as it would stand in the program's text. */
    private static final String[] FORBIDDEN = {
        "->", "::", "\\btry\\b", "\\bcatch\\b", "\\bfinally\\b", "\\bassert\\b", "\\bsynchronized\\b",
        "Exact\\(", "\\bRandom\\b", "\\bSystem\\.(?!arraycopy)", "\\bThread\\b", "\\bvar\\b",
        "^package ", "^import (?!java\\.util\\.NoSuchElementException;)", "\\bNaN\\b",
    };

    private static final Checks checks = new Checks("FaceTest");

    public static void main(String[] args) throws IOException {
        lookAtMembers();
        lookAtClassesInside();
        String program = System.getProperty("program");
        if (program != null) {
            lookAtText(Files.readAllLines(Path.of(program)));
        }
        checks.finish();
    }

    private static String textOf(Method method) {
        String parameters = Arrays.stream(method.getParameterTypes()).map(Class::getName)
                .collect(Collectors.joining(", "));
        return method.getReturnType().getName() + " " + method.getName() + "(" + parameters + ")";
    }

    private static void lookAtMembers() {
        checks.start("members");
        Set<String> open = new TreeSet<>();
        Set<String> names = new TreeSet<>();
        for (Method method : Bitmapstore.class.getDeclaredMethods()) {
            if (!Modifier.isPrivate(method.getModifiers())) {
                open.add(textOf(method));
                names.add(method.getName());
            }
        }
        checks.due("the methods are those of the face",
                open.equals(new TreeSet<>(List.of(FACE))), true);
        for (Method method : Bitmapstore.class.getDeclaredMethods()) {
            boolean isHidden = Modifier.isPrivate(method.getModifiers());
            checks.due("a private method is named " + method.getName(),
                    isHidden && names.contains(method.getName()), false);
        }
        Set<String> constants = new TreeSet<>();
        for (Field field : Bitmapstore.class.getDeclaredFields()) {
            if (!Modifier.isPrivate(field.getModifiers())) {
                constants.add(field.getName());
            }
        }
        checks.due("the constants are those of the face",
                constants.equals(new TreeSet<>(List.of(CONSTANTS))), true);
        Constructor<?>[] made = Bitmapstore.class.getDeclaredConstructors();
        checks.due("constructors", made.length, 1);
        checks.due("the constructor is public and takes nothing",
                Modifier.isPublic(made[0].getModifiers()) && made[0].getParameterCount() == 0, true);
        checks.due("the class is final", Modifier.isFinal(Bitmapstore.class.getModifiers()), true);
    }

    private static void lookAtClassesInside() {
        checks.start("rules 2, 5 and 11");
        Class<?>[] inside = Bitmapstore.class.getDeclaredClasses();
        checks.due("at most twelve classes", inside.length < 12, true);
        for (Class<?> type : inside) {
            int modifiers = type.getModifiers();
            checks.due(type + " is static and not public",
                    Modifier.isStatic(modifiers) && !Modifier.isPublic(modifiers), true);
            long fields = Arrays.stream(type.getDeclaredFields())
                    .filter(field -> !Modifier.isStatic(field.getModifiers())).count();
            checks.due(type + " has at most twenty fields", fields <= 20, true);
            for (Field field : type.getDeclaredFields()) {
                boolean isOpenState = Modifier.isStatic(field.getModifiers())
                        && !Modifier.isFinal(field.getModifiers());
                checks.due(field + " is static state", isOpenState, false);
            }
        }
    }

    private static void lookAtText(List<String> lines) {
        checks.start("the program's text");
        for (String forbidden : FORBIDDEN) {
            Pattern pattern = Pattern.compile(forbidden);
            for (String line : lines) {
                checks.due(forbidden + " in '" + line.trim() + "'",
                        pattern.matcher(line).find(), false);
            }
        }
    }
}
