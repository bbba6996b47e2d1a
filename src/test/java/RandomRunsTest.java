import java.util.Arrays;
import java.util.Map;
import java.util.Random;
import java.util.TreeMap;

/** Long runs of random calls, the same in every session, each answer compared with the Model's. */
public final class RandomRunsTest {
    private static final int OBJECTS = 600;
    private static final int CALLS = 512;
    private static final String[] NAMES = {"addBlock", "addInstruction", "setJump", "setBranch", "setReturn",
            "blockCount", "instructionCount", "opcode", "destination", "operandA", "operandB", "lines",
            "terminatorKind", "terminatorOperand", "tailHash", "commonTail", "parameterTail", "setJumpCost",
            "codeSize", "tailSaving", "bestTail", "mergeTail", "parameterSaving", "mergeWithParameter",
            "mergeAll", "setRegister", "run", "traceLength", "trace", "register", "save", "restore"};
    /** How often each method is called, in the order of the names. */
    private static final int[] WEIGHTS = {3, 60, 3, 3, 20, 2, 8, 8, 8, 8, 8, 14, 6, 8, 8, 12, 14, 3, 6, 12,
            3, 8, 12, 10, 1, 5, 10, 4, 10, 8, 6, 12};
    private static final int[] EXTREMES = {-1, 7, 8, 12, 31, 1001, -1000, 1000, Integer.MIN_VALUE, Integer.MAX_VALUE};

    private static final Check CHECK = new Check();
    private static final Random RANDOM = new Random(20261117);
    private static final Map<String, Integer> SEEN = new TreeMap<>();

    public static void main(String[] args) throws ReflectiveOperationException {
        for (int object = 0; object < OBJECTS && CHECK.wrong() == 0; object++) {
            oneObject(object);
        }
        checkSeen();
        CHECK.finish();
    }

    private static void oneObject(int object) throws ReflectiveOperationException {
        Pair pair = new Pair(object);
        // Objects with few registers meet equal tails more often.
        int variety = 1 + object % 4;
        if (object % 4 != 0) {
            similarBlocks(pair, 2 + RANDOM.nextInt(9), variety);
        }
        while (pair.calls < CALLS && CHECK.wrong() == 0) {
            int method = chooseMethod();
            pair.call(NAMES[method], chooseArguments(method, pair.model, variety));
        }
    }

    /** A TailMerger and a Model that are asked the same. */
    private static final class Pair {
        private final int object;
        private final TailMerger real = new TailMerger();
        private final Model model = new Model();
        private final StringBuilder story = new StringBuilder();
        private int calls = 0;

        private Pair(int object) {
            this.object = object;
        }

        private void call(String name, int... args) throws ReflectiveOperationException {
            int want = ask(model, name, args);
            int got = ask(real, name, args);
            String text = name + Arrays.toString(args);
            story.append(text).append(" = ").append(want).append('\n');
            boolean error = want <= Model.NO_SUCH_BLOCK && want >= Model.NOT_SAVED;
            SEEN.merge(error ? name + " " + want : name, 1, Integer::sum);
            if (got != want) {
                System.out.print(story);
            }
            CHECK.due("object " + object + ": " + text, got, want);
            calls++;
        }
    }

    /** Blocks that end alike, with a change here and there, so that there is much to merge. */
    private static void similarBlocks(Pair pair, int count, int variety) throws ReflectiveOperationException {
        int[][] pattern = new int[10][];
        for (int index = 0; index < 10; index++) {
            pattern[index] = freshInstruction(0, variety);
        }
        for (int block = 0; block < count; block++) {
            pair.call("addBlock");
            for (int index = RANDOM.nextInt(10); index < 10; index++) {
                int[] args = pattern[index].clone();
                boolean other = RANDOM.nextInt(12) == 0;
                if (other && args[1] != 0) {
                    args = freshInstruction(block, variety);
                }
                args[0] = block;
                args[3] += other && args[1] == 0 ? 1 : 0;
                args[5] = RANDOM.nextInt(31);
                pair.call("addInstruction", args);
            }
        }
        for (int block = 0; block < count; block++) {
            if (RANDOM.nextInt(4) == 0) {
                pair.call("setJump", block, RANDOM.nextInt(Math.min(3, count)));
            }
        }
    }

    private static int chooseMethod() {
        int left = RANDOM.nextInt(Arrays.stream(WEIGHTS).sum());
        int method = 0;
        while (left >= WEIGHTS[method]) {
            left -= WEIGHTS[method];
            method++;
        }
        return method;
    }

    private static int[] chooseArguments(int method, Model model, int variety) {
        int[] args = plainArguments(method, model, variety);
        if (args.length > 0 && RANDOM.nextInt(12) == 0) {
            args[RANDOM.nextInt(args.length)] = EXTREMES[RANDOM.nextInt(EXTREMES.length)];
        }
        return args;
    }

    private static int block(Model model) {
        return RANDOM.nextInt(Math.max(1, model.blockCount()));
    }

    /** Blocks that differ in one number are rare, so several pairs are tried for them. */
    private static int[] pairOfBlocks(boolean any, Model model) {
        int first = block(model);
        int second = block(model);
        for (int tries = any ? 20 : 0; tries < 20 && model.parameterTail(first, second) < 0; tries++) {
            first = block(model);
            second = block(model);
        }
        return new int[] {first, second};
    }

    private static int[] plainArguments(int method, Model model, int variety) {
        int register = RANDOM.nextInt(variety);
        switch (NAMES[method]) {
            case "addInstruction":
                return instruction(model, variety);
            case "setJump":
                return new int[] {block(model), block(model)};
            case "commonTail", "parameterTail", "parameterSaving", "mergeWithParameter":
                return pairOfBlocks(NAMES[method].equals("commonTail"), model);
            case "setBranch":
                return new int[] {block(model), register, block(model), block(model)};
            case "setReturn":
                return new int[] {block(model), RANDOM.nextInt(4) == 0 ? register : 0};
            case "instructionCount", "terminatorKind":
                return new int[] {block(model)};
            case "opcode", "destination", "operandA", "operandB", "lines":
                int chosen = block(model);
                return new int[] {chosen, RANDOM.nextInt(Math.max(0, model.instructionCount(chosen)) + 1)};
            case "terminatorOperand":
                return new int[] {block(model), RANDOM.nextInt(4) - (RANDOM.nextInt(20) == 0 ? 1 : 0)};
            case "tailHash":
                return new int[] {block(model), RANDOM.nextInt(6)};
            case "setJumpCost":
                return new int[] {RANDOM.nextInt(3) == 0 ? RANDOM.nextInt(6) : RANDOM.nextInt(2)};
            case "tailSaving", "mergeTail":
                return new int[] {set(model)};
            case "setRegister":
                return new int[] {RANDOM.nextInt(7), RANDOM.nextInt(3) == 0 ? RANDOM.nextInt() : RANDOM.nextInt(3)};
            case "run":
                return new int[] {1 + RANDOM.nextInt(RANDOM.nextBoolean() ? 1000 : 20)};
            case "trace":
                return new int[] {RANDOM.nextInt(Math.max(0, model.traceLength()) + 2)};
            case "register":
                return new int[] {RANDOM.nextInt(8)};
            case "save", "restore":
                return new int[] {RANDOM.nextInt(2)};
            default:
                return new int[0];
        }
    }

    private static int set(Model model) {
        switch (RANDOM.nextInt(5)) {
            case 0:
                return RANDOM.nextInt(1 << model.blockCount() + 1);
            case 1:
                return Math.max(0, model.bestTail());
            default:
                return 1 << block(model) | 1 << block(model) | (RANDOM.nextBoolean() ? 1 << block(model) : 0);
        }
    }

    /** Half of the time one that stands at the same place of another block, perhaps with another number. */
    private static int[] instruction(Model model, int variety) {
        int block = block(model);
        int other = block(model);
        int line = RANDOM.nextInt(31);
        int count = model.instructionCount(other);
        if (count > 0 && RANDOM.nextBoolean()) {
            int index = Math.min(count - 1, Math.max(0, model.instructionCount(block)));
            int opcode = model.opcode(other, index);
            int change = opcode == 0 && RANDOM.nextBoolean() ? 1 : 0;
            return new int[] {block, opcode, model.destination(other, index),
                    model.operandA(other, index) + change, model.operandB(other, index), line};
        }
        return freshInstruction(block, variety);
    }

    private static int[] freshInstruction(int block, int variety) {
        int opcode = RANDOM.nextInt(3) == 0 ? 0 : RANDOM.nextInt(7);
        int d = opcode == 6 ? 0 : RANDOM.nextInt(variety);
        int a = opcode == 0 ? 6 + RANDOM.nextInt(3) : RANDOM.nextInt(variety);
        int b = opcode >= 2 && opcode <= 5 ? RANDOM.nextInt(variety) : 0;
        return new int[] {block, opcode, d, a, b, RANDOM.nextInt(31)};
    }

    /** Every method must have answered well and with each of its errors, or the runs test too little. */
    private static void checkSeen() {
        for (String name : NAMES) {
            CHECK.holds(name + " answered without an error", SEEN.getOrDefault(name, 0) > 0);
        }
        String[] errors = {"addBlock -1004", "addInstruction -1001", "addInstruction -1003", "addInstruction -1004",
                "setJump -1001", "setBranch -1001", "setBranch -1003", "setReturn -1001", "setReturn -1003",
                "instructionCount -1001", "opcode -1001", "opcode -1002", "lines -1002", "terminatorKind -1001",
                "terminatorOperand -1001", "terminatorOperand -1008", "tailHash -1001", "tailHash -1003",
                "commonTail -1001", "commonTail -1003", "commonTail -1005", "parameterTail -1001",
                "parameterTail -1003", "parameterTail -1005", "setJumpCost -1003", "tailSaving -1001",
                "tailSaving -1003", "tailSaving -1005", "bestTail -1008", "mergeTail -1001", "mergeTail -1003",
                "mergeTail -1004", "mergeTail -1005", "mergeTail -1006", "parameterSaving -1001",
                "parameterSaving -1003", "parameterSaving -1005", "mergeWithParameter -1001",
                "mergeWithParameter -1003", "mergeWithParameter -1004", "mergeWithParameter -1005",
                "setRegister -1003", "run -1001", "run -1003", "run -1007", "save -1003", "restore -1003",
                "restore -1009"};
        for (String error : errors) {
            CHECK.holds(error + " was answered", SEEN.getOrDefault(error, 0) > 0);
        }
    }

    /** Calls the method of that name; TailMerger and Model have the same ones, with int parameters alone. */
    private static int ask(Object x, String name, int[] args) throws ReflectiveOperationException {
        Class<?>[] types = new Class<?>[args.length];
        Arrays.fill(types, int.class);
        Object[] boxed = Arrays.stream(args).boxed().toArray();
        return (Integer) x.getClass().getDeclaredMethod(name, types).invoke(x, boxed);
    }
}
