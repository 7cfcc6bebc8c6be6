import java.io.IOException;
import java.lang.reflect.Constructor;
import java.lang.reflect.Executable;
import java.lang.reflect.Field;
import java.lang.reflect.Method;
import java.lang.reflect.Modifier;
import java.nio.file.Files;
import java.nio.file.Path;
import java.util.ArrayList;
import java.util.Collections;
import java.util.HashSet;
import java.util.List;
import java.util.Set;

/** The public face is that of the document, and nothing else can be seen of the class. */
public final class FaceTest {
    private static final Check CHECK = new Check("FaceTest");
    private static final Class<Foundrymark> PROGRAM = Foundrymark.class;
    private static final Path SOURCE = Path.of("src/main/java/Foundrymark.java");
    /** The document's lines, with the types of the parameters, and the tests' exception names. */
    private static final String FACE = """
            Foundrymark()
            int addMachine(int, int, int, int) throws ARGUMENT, STATE
            int addPart(boolean, int) throws ARGUMENT, STATE
            int addComponent(int, int, int, int) throws INDEX, UNSUPPORTED, ARGUMENT, STATE
            int addOperation(int, int, int, int) throws INDEX, UNSUPPORTED, ARGUMENT, STATE
            int receive(int, int, int, int, int) throws INDEX, UNSUPPORTED, ARGUMENT, STATE
            char rule(int) throws INDEX
            int hold(int, boolean) throws INDEX
            boolean isHeld(int) throws INDEX
            int setChart(int, int, int) throws INDEX, ARGUMENT
            boolean measure(int, int) throws INDEX, ARGUMENT
            int lots()
            int partOf(int) throws INDEX
            int rest(int) throws INDEX
            int reserved(int) throws INDEX
            long costOf(int) throws INDEX
            int order(int, int, int, int) throws INDEX, ARGUMENT, STATE
            boolean promise(int) throws INDEX, UNSUPPORTED
            int withdraw(int) throws INDEX, UNSUPPORTED
            boolean release(int) throws INDEX, UNSUPPORTED
            int scrap(int, int) throws INDEX, UNSUPPORTED, ARGUMENT
            int advance(int) throws ARGUMENT, STATE
            boolean deliver(int) throws INDEX, UNSUPPORTED
            char stateOf(int) throws INDEX
            int lotOf(int) throws INDEX, NO_SUCH
            int finishedAt(int) throws INDEX, NO_SUCH
            char machineIs(int) throws INDEX
            int wear(int) throws INDEX
            int waiting(int) throws INDEX
            boolean isIn(int, int) throws INDEX
            int touched(int) throws INDEX
            int lotsIn(int) throws INDEX
            long deliveredCost(int) throws INDEX, NO_SUCH
            float inTimeShare() throws ARITHMETIC
            double meanBusy() throws ARITHMETIC
            boolean isSound()
            """;
    private static final Set<String> IMPORTS = Set.of(
            "import java.util.ArrayList;", "import java.util.Arrays;",
            "import java.util.Iterator;", "import java.util.List;",
            "import java.util.NoSuchElementException;");

    public static void main(String[] args) throws IOException {
        faceOfTheDocument();
        promise1OneConstructor();
        nothingElseIsVisible();
        classesInside();
        fields();
        methods();
        wordsThatAreRuledOut();
        CHECK.close();
    }

    private static void faceOfTheDocument() {
        CHECK.of("The public face");
        List<String> got = new ArrayList<>();
        for (Constructor<?> constructor : PROGRAM.getConstructors()) {
            got.add(asText("", PROGRAM.getSimpleName(), constructor));
        }
        for (Method method : PROGRAM.getDeclaredMethods()) {
            if (Modifier.isPublic(method.getModifiers())) {
                got.add(asText(method.getReturnType().getSimpleName() + " ",
                        method.getName(), method));
            }
        }
        List<String> due = new ArrayList<>(List.of(FACE.strip().split("\n")));
        Collections.sort(due);
        Collections.sort(got);
        CHECK.same("lines of the face", due.size(), 36);
        CHECK.same("the face", String.join("\n", got), String.join("\n", due));
    }

    private static String asText(String before, String name, Executable call) {
        return before + name + "(" + names(call.getParameterTypes()) + ")"
                + (call.getExceptionTypes().length > 0 ? " throws " : "")
                + kinds(call.getExceptionTypes());
    }

    /** The exceptions by the names that the tests give them. */
    private static String kinds(Class<?>[] types) {
        return names(types).replace("IndexOutOfBoundsException", "INDEX")
                .replace("UnsupportedOperationException", "UNSUPPORTED")
                .replace("IllegalArgumentException", "ARGUMENT")
                .replace("IllegalStateException", "STATE")
                .replace("NoSuchElementException", "NO_SUCH")
                .replace("ArithmeticException", "ARITHMETIC");
    }

    private static String names(Class<?>[] types) {
        List<String> all = new ArrayList<>();
        for (Class<?> type : types) {
            all.add(type.getSimpleName());
        }
        return String.join(", ", all);
    }

    private static void promise1OneConstructor() {
        CHECK.of("Promise 1: Foundrymark()");
        CHECK.same("constructors", PROGRAM.getDeclaredConstructors().length, 1);
        CHECK.same("public constructors", PROGRAM.getConstructors().length, 1);
    }

    private static void nothingElseIsVisible() {
        CHECK.of("LANGUAGE.md, rule 1: no other member");
        CHECK.same("public and final", PROGRAM.getModifiers(), Modifier.PUBLIC | Modifier.FINAL);
        CHECK.same("package", PROGRAM.getPackageName(), "");
        Set<String> publicNames = new HashSet<>();
        for (Method method : PROGRAM.getDeclaredMethods()) {
            if (Modifier.isPublic(method.getModifiers())) {
                publicNames.add(method.getName());
            }
        }
        for (Method method : PROGRAM.getDeclaredMethods()) {
            if (!Modifier.isPublic(method.getModifiers())) {
                String name = method.getName();
                CHECK.same(name + " is private", Modifier.isPrivate(method.getModifiers()), true);
                CHECK.same(name + " is a name of the face", publicNames.contains(name), false);
            }
        }
        for (Field field : PROGRAM.getDeclaredFields()) {
            CHECK.same(field.getName() + " is private",
                    Modifier.isPrivate(field.getModifiers()), true);
        }
    }

    private static void classesInside() {
        CHECK.of("LANGUAGE.md, rules 1, 2 and 11: classes inside");
        CHECK.same("at most twelve classes", all().size() <= 12, true);
        for (Class<?> inside : PROGRAM.getDeclaredClasses()) {
            int modifiers = inside.getModifiers();
            CHECK.same(inside + " is static", Modifier.isStatic(modifiers), true);
            CHECK.same(inside + " is hidden",
                    Modifier.isPublic(modifiers) || Modifier.isProtected(modifiers), false);
            CHECK.same(inside + " has classes of its own",
                    inside.getDeclaredClasses().length, 0);
            CHECK.same(inside + " is an exception",
                    Throwable.class.isAssignableFrom(inside), false);
        }
    }

    private static void fields() {
        CHECK.of("LANGUAGE.md, rules 3, 5 and 11: fields");
        for (Class<?> each : all()) {
            int ofAnObject = 0;
            for (Field field : each.getDeclaredFields()) {
                String name = each.getSimpleName() + "." + field.getName();
                Class<?> type = field.getType();
                if (Modifier.isStatic(field.getModifiers())) {
                    CHECK.same(name + " is final", Modifier.isFinal(field.getModifiers()), true);
                    CHECK.same(name + " is a constant", isConstant(type), true);
                } else {
                    ofAnObject++;
                    CHECK.same(name + " is of a type that stands there", isAllowed(type), true);
                }
            }
            CHECK.same(each + " has at most twenty fields", ofAnObject <= 20, true);
        }
    }

    private static boolean isConstant(Class<?> type) {
        return Set.of(int.class, long.class, boolean.class, char.class, String.class,
                int[].class, long[].class, char[].class, byte[].class).contains(type);
    }

    private static boolean isAllowed(Class<?> type) {
        Class<?> inner = type.isArray() ? type.getComponentType() : type;
        boolean isRowOfNumbers = inner.isArray() && inner.getComponentType().isPrimitive();
        return inner.isPrimitive() || isRowOfNumbers || all().contains(inner)
                || Set.of(String.class, StringBuilder.class, ArrayList.class, List.class)
                        .contains(type);
    }

    private static void methods() {
        CHECK.of("LANGUAGE.md, rules 2, 6 and 11: methods");
        Set<String> ofObjects = Set.of("equals", "hashCode", "toString", "finalize");
        for (Class<?> each : all()) {
            for (Method method : each.getDeclaredMethods()) {
                String name = each.getSimpleName() + "." + method.getName();
                CHECK.same(name + " was made by the compiler", method.isSynthetic(), false);
                CHECK.same(name + " takes at most seven", method.getParameterCount() <= 7, true);
                CHECK.same(name + " is one of Object", ofObjects.contains(method.getName()), false);
                CHECK.same(name + " is synchronized",
                        Modifier.isSynchronized(method.getModifiers()), false);
            }
        }
    }

    private static void wordsThatAreRuledOut() throws IOException {
        CHECK.of("LANGUAGE.md, rules 2, 4, 5, 6 and 13: words");
        String source = Files.readString(SOURCE);
        for (String line : source.split("\n")) {
            if (line.startsWith("import ")) {
                CHECK.same(line + " stands in the list", IMPORTS.contains(line), true);
            }
        }
        String[] ruledOut = {"->", "::", "finally", "synchronized", "assert", "package ",
            "static {", "java.lang", "System.out", "System.nano", "System.current", "Thread",
            "Random", "NaN", "Exact(", "hashCode", "getMessage"};
        for (String word : ruledOut) {
            CHECK.same("'" + word + "' stands in the program", source.contains(word), false);
        }
    }

    private static List<Class<?>> all() {
        List<Class<?>> all = new ArrayList<>(List.of(PROGRAM.getDeclaredClasses()));
        all.add(PROGRAM);
        return all;
    }
}
