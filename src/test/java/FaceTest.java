import java.lang.reflect.Constructor;
import java.lang.reflect.Field;
import java.lang.reflect.Method;
import java.lang.reflect.Modifier;
import java.util.Map;
import java.util.Set;
import java.util.TreeMap;
import java.util.TreeSet;

/** The public face: the class, its constants, its constructor and its methods, and nothing else. */
public final class FaceTest {
    private static final Check CHECK = new Check();

    private static final Map<String, Integer> CONSTANTS = Map.ofEntries(
            Map.entry("NO_SUCH_BLOCK", -1001), Map.entry("NO_SUCH_INSTRUCTION", -1002),
            Map.entry("OUT_OF_RANGE", -1003), Map.entry("FULL", -1004), Map.entry("DIFFERENT", -1005),
            Map.entry("NOT_PROFITABLE", -1006), Map.entry("TIMEOUT", -1007), Map.entry("NONE", -1008),
            Map.entry("NOT_SAVED", -1009), Map.entry("CONST", 0), Map.entry("COPY", 1),
            Map.entry("ADD", 2), Map.entry("SUB", 3), Map.entry("MUL", 4), Map.entry("LESS", 5),
            Map.entry("EMIT", 6), Map.entry("JUMP", 0), Map.entry("BRANCH", 1), Map.entry("RETURN", 2));

    /** Each method with the number of its int parameters. */
    private static final Map<String, Integer> METHODS = Map.ofEntries(
            Map.entry("addBlock", 0), Map.entry("addInstruction", 6), Map.entry("setJump", 2),
            Map.entry("setBranch", 4), Map.entry("setReturn", 2), Map.entry("blockCount", 0),
            Map.entry("instructionCount", 1), Map.entry("opcode", 2), Map.entry("destination", 2),
            Map.entry("operandA", 2), Map.entry("operandB", 2), Map.entry("lines", 2),
            Map.entry("terminatorKind", 1), Map.entry("terminatorOperand", 2), Map.entry("tailHash", 2),
            Map.entry("commonTail", 2), Map.entry("parameterTail", 2), Map.entry("setJumpCost", 1),
            Map.entry("codeSize", 0), Map.entry("tailSaving", 1), Map.entry("bestTail", 0),
            Map.entry("mergeTail", 1), Map.entry("parameterSaving", 2), Map.entry("mergeWithParameter", 2),
            Map.entry("mergeAll", 0), Map.entry("setRegister", 2), Map.entry("run", 1),
            Map.entry("traceLength", 0), Map.entry("trace", 1), Map.entry("register", 1),
            Map.entry("save", 1), Map.entry("restore", 1));

    public static void main(String[] args) throws IllegalAccessException {
        int modifiers = TailMerger.class.getModifiers();
        CHECK.holds("public and final", Modifier.isPublic(modifiers) && Modifier.isFinal(modifiers));
        checkConstants();
        checkConstructor();
        checkMethods();
        checkNames();
        CHECK.finish();
    }

    private static void checkConstants() throws IllegalAccessException {
        Map<String, Integer> found = new TreeMap<>();
        for (Field field : TailMerger.class.getDeclaredFields()) {
            int modifiers = field.getModifiers();
            if (Modifier.isPublic(modifiers)) {
                CHECK.holds(field + " is a constant of int", Modifier.isStatic(modifiers)
                        && Modifier.isFinal(modifiers) && field.getType() == int.class);
                found.put(field.getName(), field.getInt(null));
            } else {
                CHECK.holds(field + " is private", Modifier.isPrivate(modifiers));
            }
            CHECK.holds(field + " is no static state", !Modifier.isStatic(modifiers) || Modifier.isFinal(modifiers));
        }
        CHECK.holds("the constants " + found, found.equals(CONSTANTS));
    }

    private static void checkConstructor() {
        Constructor<?>[] constructors = TailMerger.class.getDeclaredConstructors();
        CHECK.holds("one constructor", constructors.length == 1);
        CHECK.holds("public, without parameters", Modifier.isPublic(constructors[0].getModifiers())
                && constructors[0].getParameterCount() == 0);
    }

    private static void checkMethods() {
        Map<String, Integer> found = new TreeMap<>();
        for (Method method : TailMerger.class.getDeclaredMethods()) {
            if (Modifier.isPublic(method.getModifiers())) {
                boolean ints = method.getReturnType() == int.class;
                for (Class<?> type : method.getParameterTypes()) {
                    ints &= type == int.class;
                }
                CHECK.holds(method + " is of int alone, and not static",
                        ints && !Modifier.isStatic(method.getModifiers()));
                CHECK.holds(method + " is there once",
                        found.put(method.getName(), method.getParameterCount()) == null);
            } else {
                CHECK.holds(method + " is private", Modifier.isPrivate(method.getModifiers()));
            }
        }
        CHECK.holds("the methods " + found, found.equals(METHODS));
    }

    /** No private method of the class or of a class inside it bears the name of a public one. */
    private static void checkNames() {
        Set<String> others = new TreeSet<>();
        addPrivateNames(others, TailMerger.class);
        for (Class<?> inside : TailMerger.class.getDeclaredClasses()) {
            CHECK.holds(inside + " is static", Modifier.isStatic(inside.getModifiers()));
            addPrivateNames(others, inside);
        }
        others.retainAll(METHODS.keySet());
        CHECK.holds("no name twice: " + others, others.isEmpty());
    }

    private static void addPrivateNames(Set<String> names, Class<?> of) {
        for (Method method : of.getDeclaredMethods()) {
            if (Modifier.isPrivate(method.getModifiers())) {
                names.add(method.getName());
            }
        }
    }
}
