/**
 * A tail-merging compiler pass on a small register machine. The promises of ../shared/DOC.md say
 * what each public method answers.
 *
 * <p>Arguments are tested where they enter, so that whatever a block holds (block indices, register
 * numbers, counts) is in range wherever it is used. Every array is made with the object and used
 * again, because all calls of a run share one room.
 */
public final class TailMerger {
    public static final int NO_SUCH_BLOCK = -1001, NO_SUCH_INSTRUCTION = -1002, OUT_OF_RANGE = -1003,
            FULL = -1004, DIFFERENT = -1005, NOT_PROFITABLE = -1006, TIMEOUT = -1007, NONE = -1008,
            NOT_SAVED = -1009;
    public static final int CONST = 0, COPY = 1, ADD = 2, SUB = 3, MUL = 4, LESS = 5, EMIT = 6;
    public static final int JUMP = 0, BRANCH = 1, RETURN = 2;

    private static final int MAX_BLOCKS = 12;
    private static final int MAX_INSTRUCTIONS = 10;
    private static final int REGISTERS = 8;
    private static final int PARAMETER = 7;
    private static final int MAX_NUMBER = 999;
    private static final int MAX_LINE = 30;
    private static final int MAX_JUMP_COST = 5;
    private static final int MAX_STEPS = 1000;
    private static final int TERMINATOR_OPERANDS = 3;
    private static final int SLOTS = 2;
    private static final int NO_ERROR = 0;
    private static final int ALL_BUT_SIGN = 0x7fffffff;

    private final Program program;
    private final Program[] slots;
    private final boolean[] saved;
    private final Machine machine;

    public TailMerger() {
        program = new Program();
        slots = new Program[SLOTS];
        for (int slot = 0; slot < SLOTS; slot++) {
            slots[slot] = new Program();
        }
        saved = new boolean[SLOTS];
        machine = new Machine();
    }

    // ---- building a program ----

    public int addBlock() {
        return program.appendBlock();
    }

    public int addInstruction(int block, int opcode, int d, int a, int b, int line) {
        if (!program.has(block)) {
            return NO_SUCH_BLOCK;
        }
        if (!operandsFit(opcode, d, a, b) || line < 0 || line > MAX_LINE) {
            return OUT_OF_RANGE;
        }
        return program.blocks[block].append(opcode, d, a, b, 1 << line);
    }

    private static boolean operandsFit(int opcode, int d, int a, int b) {
        switch (opcode) {
            case CONST:
                return isGeneral(d) && a >= -MAX_NUMBER && a <= MAX_NUMBER && b == 0;
            case COPY:
                return isGeneral(d) && isGeneral(a) && b == 0;
            case ADD:
            case SUB:
            case MUL:
            case LESS:
                return isGeneral(d) && isGeneral(a) && isGeneral(b);
            case EMIT:
                return d == 0 && isGeneral(a) && b == 0;
            default:
                return false;
        }
    }

    /** A register that calls may name: only mergeWithParameter makes code that uses register 7. */
    private static boolean isGeneral(int register) {
        return register >= 0 && register < PARAMETER;
    }

    public int setJump(int block, int target) {
        if (!program.has(block) || !program.has(target)) {
            return NO_SUCH_BLOCK;
        }
        return program.blocks[block].terminate(JUMP, target, 0, 0);
    }

    public int setBranch(int block, int register, int ifNotZero, int ifZero) {
        if (!program.has(block) || !program.has(ifNotZero) || !program.has(ifZero)) {
            return NO_SUCH_BLOCK;
        }
        if (!isGeneral(register)) {
            return OUT_OF_RANGE;
        }
        return program.blocks[block].terminate(BRANCH, register, ifNotZero, ifZero);
    }

    public int setReturn(int block, int register) {
        if (!program.has(block)) {
            return NO_SUCH_BLOCK;
        }
        if (!isGeneral(register)) {
            return OUT_OF_RANGE;
        }
        return program.blocks[block].terminate(RETURN, register, 0, 0);
    }

    // ---- reading a program ----

    public int blockCount() {
        return program.count;
    }

    public int instructionCount(int block) {
        return program.has(block) ? program.blocks[block].count : NO_SUCH_BLOCK;
    }

    public int opcode(int block, int index) {
        int error = instructionError(block, index);
        return error != NO_ERROR ? error : program.blocks[block].opcodes[index];
    }

    public int destination(int block, int index) {
        int error = instructionError(block, index);
        return error != NO_ERROR ? error : program.blocks[block].destinations[index];
    }

    public int operandA(int block, int index) {
        int error = instructionError(block, index);
        return error != NO_ERROR ? error : program.blocks[block].operandsA[index];
    }

    public int operandB(int block, int index) {
        int error = instructionError(block, index);
        return error != NO_ERROR ? error : program.blocks[block].operandsB[index];
    }

    public int lines(int block, int index) {
        int error = instructionError(block, index);
        return error != NO_ERROR ? error : program.blocks[block].lineSets[index];
    }

    private int instructionError(int block, int index) {
        if (!program.has(block)) {
            return NO_SUCH_BLOCK;
        }
        if (index < 0 || index >= program.blocks[block].count) {
            return NO_SUCH_INSTRUCTION;
        }
        return NO_ERROR;
    }

    public int terminatorKind(int block) {
        return program.has(block) ? program.blocks[block].kind : NO_SUCH_BLOCK;
    }

    public int terminatorOperand(int block, int index) {
        if (!program.has(block)) {
            return NO_SUCH_BLOCK;
        }
        Block chosen = program.blocks[block];
        int operandCount = chosen.kind == BRANCH ? TERMINATOR_OPERANDS : 1;
        if (index < 0 || index >= operandCount) {
            return NONE;
        }
        return chosen.terminatorOperands[index];
    }

    // ---- tails ----

    public int tailHash(int block, int length) {
        if (!program.has(block)) {
            return NO_SUCH_BLOCK;
        }
        Block chosen = program.blocks[block];
        if (length < 0 || length > chosen.count) {
            return OUT_OF_RANGE;
        }
        return chosen.hashOfTail(length);
    }

    public int commonTail(int first, int second) {
        int error = pairError(first, second);
        return error != NO_ERROR ? error : program.blocks[first].tailSharedWith(program.blocks[second]);
    }

    public int parameterTail(int first, int second) {
        int error = pairError(first, second);
        return error != NO_ERROR ? error : program.blocks[first].parameterTailWith(program.blocks[second]);
    }

    private int pairError(int first, int second) {
        if (!program.has(first) || !program.has(second)) {
            return NO_SUCH_BLOCK;
        }
        return first == second ? OUT_OF_RANGE : NO_ERROR;
    }

    // ---- size and merges ----

    public int setJumpCost(int cost) {
        if (cost < 0 || cost > MAX_JUMP_COST) {
            return OUT_OF_RANGE;
        }
        int previous = program.jumpCost;
        program.jumpCost = cost;
        return previous;
    }

    public int codeSize() {
        return program.size();
    }

    public int tailSaving(int blocks) {
        int length = tailOrError(blocks);
        return length < 0 ? length : program.savingOfSet(blocks, length);
    }

    /** The common tail length of a set of blocks, or the error code that tailSaving answers. */
    private int tailOrError(int blocks) {
        // The shift keeps the sign, so a negative set fails here too.
        if (blocks >> program.count != 0) {
            return NO_SUCH_BLOCK;
        }
        if (Integer.bitCount(blocks) < 2) {
            return OUT_OF_RANGE;
        }
        return program.tailOfSet(blocks);
    }

    public int bestTail() {
        return program.bestSet();
    }

    public int mergeTail(int blocks) {
        int length = tailOrError(blocks);
        if (length < 0) {
            return length;
        }
        if (program.savingOfSet(blocks, length) <= 0) {
            return NOT_PROFITABLE;
        }
        return program.mergeSet(blocks, length);
    }

    public int parameterSaving(int first, int second) {
        int length = parameterTail(first, second);
        return length < 0 ? length : program.savingWithParameter(first, length);
    }

    public int mergeWithParameter(int first, int second) {
        int length = parameterTail(first, second);
        return length < 0 ? length : program.mergePair(first, second, length);
    }

    public int mergeAll() {
        // Each merge takes one block of the room that is left.
        int room = MAX_BLOCKS - program.count;
        int merges = 0;
        while (merges < room) {
            int best = program.bestSet();
            if (best == NONE) {
                break;
            }
            program.mergeSet(best, program.tailOfSet(best));
            merges++;
        }
        return merges;
    }

    // ---- running ----

    public int setRegister(int register, int value) {
        if (!isGeneral(register)) {
            return OUT_OF_RANGE;
        }
        program.initialValues[register] = value;
        return 1;
    }

    public int run(int maxSteps) {
        if (maxSteps < 1 || maxSteps > MAX_STEPS) {
            return OUT_OF_RANGE;
        }
        if (program.count == 0) {
            return NO_SUCH_BLOCK;
        }
        return machine.execute(program, maxSteps);
    }

    public int traceLength() {
        return machine.emittedCount;
    }

    public int trace(int index) {
        return index >= 0 && index < machine.emittedCount ? machine.emitted[index] : 0;
    }

    public int register(int register) {
        return register >= 0 && register < REGISTERS ? machine.values[register] : 0;
    }

    // ---- saving ----

    public int save(int slot) {
        if (slot < 0 || slot >= SLOTS) {
            return OUT_OF_RANGE;
        }
        slots[slot].copyFrom(program);
        saved[slot] = true;
        return 1;
    }

    public int restore(int slot) {
        if (slot < 0 || slot >= SLOTS) {
            return OUT_OF_RANGE;
        }
        if (!saved[slot]) {
            return NOT_SAVED;
        }
        program.copyFrom(slots[slot]);
        return 1;
    }

    /** A basic block. "Back" counts instructions from the end: 1 is the last one. */
    private static final class Block {
        private final int[] opcodes;
        private final int[] destinations;
        private final int[] operandsA;
        private final int[] operandsB;
        private final int[] lineSets;
        private int count;
        private int kind;
        /** Operands that the kind of terminator doesn't have are 0, as the hash counts them. */
        private final int[] terminatorOperands;

        private Block() {
            opcodes = new int[MAX_INSTRUCTIONS];
            destinations = new int[MAX_INSTRUCTIONS];
            operandsA = new int[MAX_INSTRUCTIONS];
            operandsB = new int[MAX_INSTRUCTIONS];
            lineSets = new int[MAX_INSTRUCTIONS];
            count = 0;
            kind = RETURN;
            terminatorOperands = new int[TERMINATOR_OPERANDS];
        }

        private void clear() {
            count = 0;
            terminate(RETURN, 0, 0, 0);
        }

        /** Answers the index of the new instruction, or FULL. */
        private int append(int opcode, int d, int a, int b, int lineSet) {
            if (count >= MAX_INSTRUCTIONS) {
                return FULL;
            }
            int index = count;
            opcodes[index] = opcode;
            destinations[index] = d;
            operandsA[index] = a;
            operandsB[index] = b;
            lineSets[index] = lineSet;
            count++;
            return index;
        }

        /** Answers the kind of the terminator before. */
        private int terminate(int newKind, int operand0, int operand1, int operand2) {
            int previous = kind;
            kind = newKind;
            terminatorOperands[0] = operand0;
            terminatorOperands[1] = operand1;
            terminatorOperands[2] = operand2;
            return previous;
        }

        private void copyFrom(Block other) {
            count = 0;
            appendTail(other, other.count);
        }

        /** Appends the last instructions of another block and takes over its terminator. */
        private void appendTail(Block other, int length) {
            for (int index = other.count - length; index < other.count; index++) {
                append(other.opcodes[index], other.destinations[index], other.operandsA[index],
                        other.operandsB[index], other.lineSets[index]);
            }
            terminate(other.kind, other.terminatorOperands[0], other.terminatorOperands[1],
                    other.terminatorOperands[2]);
        }

        /** Unites the line sets of the last instructions of another block into those of this one. */
        private void uniteLines(Block other, int length) {
            for (int back = 1; back <= length; back++) {
                lineSets[count - back] |= other.lineSets[other.count - back];
            }
        }

        private void replaceTailByJump(int length, int target) {
            count -= length;
            terminate(JUMP, target, 0, 0);
        }

        /** As replaceTailByJump, but the number of the CONST at a place is passed in register 7. */
        private void replaceTailByParameter(int length, int back, int target) {
            int number = operandsA[count - back];
            int lineSet = lineSets[count - back];
            replaceTailByJump(length, target);
            append(CONST, PARAMETER, number, 0, lineSet);
        }

        private void takeParameterAt(int back) {
            opcodes[count - back] = COPY;
            operandsA[count - back] = PARAMETER;
        }

        private int hashOfTail(int length) {
            int hash = 17;
            for (int index = count - length; index < count; index++) {
                hash = 31 * hash + opcodes[index];
                hash = 31 * hash + destinations[index];
                hash = 31 * hash + operandsA[index];
                hash = 31 * hash + operandsB[index];
            }
            hash = 31 * hash + kind;
            for (int index = 0; index < TERMINATOR_OPERANDS; index++) {
                hash = 31 * hash + terminatorOperands[index];
            }
            return hash & ALL_BUT_SIGN;
        }

        private int tailSharedWith(Block other) {
            if (!hasTerminatorOf(other)) {
                return DIFFERENT;
            }
            int limit = Math.min(count, other.count);
            int length = 0;
            while (length < limit && isEqualAt(other, length + 1)) {
                length++;
            }
            return length;
        }

        private int parameterTailWith(Block other) {
            if (kind != RETURN || !hasTerminatorOf(other)) {
                return DIFFERENT;
            }
            int limit = Math.min(count, other.count);
            int length = 0;
            boolean differs = false;
            while (length < limit && fitsParameterTail(other, length + 1, differs)) {
                length++;
                differs = differs || !isEqualAt(other, length);
            }
            return differs ? length : DIFFERENT;
        }

        private boolean fitsParameterTail(Block other, int back, boolean differsBehind) {
            if (usesParameterAt(back) || other.usesParameterAt(back)) {
                return false;
            }
            return isEqualAt(other, back) || (!differsBehind && isSameConstTargetAt(other, back));
        }

        private boolean hasTerminatorOf(Block other) {
            return kind == other.kind
                    && terminatorOperands[0] == other.terminatorOperands[0]
                    && terminatorOperands[1] == other.terminatorOperands[1]
                    && terminatorOperands[2] == other.terminatorOperands[2];
        }

        private boolean isEqualAt(Block other, int back) {
            int mine = count - back;
            int theirs = other.count - back;
            return opcodes[mine] == other.opcodes[theirs]
                    && destinations[mine] == other.destinations[theirs]
                    && operandsA[mine] == other.operandsA[theirs]
                    && operandsB[mine] == other.operandsB[theirs];
        }

        private boolean isSameConstTargetAt(Block other, int back) {
            int mine = count - back;
            int theirs = other.count - back;
            return opcodes[mine] == CONST && other.opcodes[theirs] == CONST
                    && destinations[mine] == other.destinations[theirs];
        }

        /** Fields that are no register are 0 and can't be taken for it, but for the CONST's number. */
        private boolean usesParameterAt(int back) {
            int index = count - back;
            return destinations[index] == PARAMETER || operandsB[index] == PARAMETER
                    || (operandsA[index] == PARAMETER && opcodes[index] != CONST);
        }
    }

    /** What save keeps: the blocks, the jump cost and the initial register values. */
    private static final class Program {
        private final Block[] blocks;
        private int count;
        private int jumpCost;
        private final int[] initialValues;
        /** Working row of bestSet, kept so that a call makes no array. */
        private final int[] sharedLengths;

        private Program() {
            blocks = new Block[MAX_BLOCKS];
            for (int block = 0; block < MAX_BLOCKS; block++) {
                blocks[block] = new Block();
            }
            count = 0;
            jumpCost = 1;
            initialValues = new int[REGISTERS];
            sharedLengths = new int[MAX_BLOCKS];
        }

        private boolean has(int block) {
            return block >= 0 && block < count;
        }

        /** Answers the index of the new block, or FULL. */
        private int appendBlock() {
            if (count >= MAX_BLOCKS) {
                return FULL;
            }
            int index = count;
            // A restore may have left an old block behind the last one.
            blocks[index].clear();
            count++;
            return index;
        }

        private void copyFrom(Program other) {
            count = other.count;
            for (int block = 0; block < count; block++) {
                blocks[block].copyFrom(other.blocks[block]);
            }
            jumpCost = other.jumpCost;
            System.arraycopy(other.initialValues, 0, initialValues, 0, REGISTERS);
        }

        private int size() {
            int size = 0;
            for (int block = 0; block < count; block++) {
                size += blocks[block].count + terminatorCost(block);
            }
            return size;
        }

        private int terminatorCost(int block) {
            switch (blocks[block].kind) {
                case JUMP:
                    return jumpCost;
                case BRANCH:
                    return 2;
                default:
                    return 1;
            }
        }

        /** The common tail length of a set of existing blocks, or DIFFERENT. */
        private int tailOfSet(int set) {
            int first = NONE;
            int length = DIFFERENT;
            for (int block = 0; block < count; block++) {
                if (contains(set, block)) {
                    if (first == NONE) {
                        first = block;
                        length = blocks[block].count;
                    } else {
                        // DIFFERENT is less than every length, so it stays once it has come.
                        length = Math.min(length, blocks[first].tailSharedWith(blocks[block]));
                    }
                }
            }
            return length;
        }

        private static boolean contains(int set, int block) {
            return (set >> block & 1) == 1;
        }

        private int savingOfSet(int set, int length) {
            int anyMember = 0;
            for (int block = 0; block < count; block++) {
                if (contains(set, block)) {
                    anyMember = block;
                }
            }
            return savingOf(Integer.bitCount(set), length, terminatorCost(anyMember));
        }

        private int savingOf(int members, int length, int terminatorCost) {
            return (members - 1) * (length + terminatorCost) - members * jumpCost;
        }

        /**
         * The set with the greatest saving, or NONE. It is enough to look, for each block and each
         * length, at the set of ALL blocks from there on that share this tail: where a merge is
         * profitable, its length plus its terminator's cost is greater than the jump cost, so each
         * further block with the same tail adds to the saving.
         */
        private int bestSet() {
            int best = NONE;
            int bestSaving = 0;
            for (int first = 0; first < count; first++) {
                compareWithLater(first);
                int cost = terminatorCost(first);
                for (int length = 0; length <= blocks[first].count; length++) {
                    int set = sharersFrom(first, length);
                    int saving = savingOf(Integer.bitCount(set), length, cost);
                    if (saving > bestSaving || (saving == bestSaving && set < best)) {
                        best = set;
                        bestSaving = saving;
                    }
                }
            }
            return best;
        }

        private void compareWithLater(int first) {
            for (int block = first + 1; block < count; block++) {
                sharedLengths[block] = blocks[first].tailSharedWith(blocks[block]);
            }
        }

        private int sharersFrom(int first, int length) {
            int set = 1 << first;
            for (int block = first + 1; block < count; block++) {
                if (sharedLengths[block] >= length) {
                    set |= 1 << block;
                }
            }
            return set;
        }

        /** Answers the index of the new block, or FULL, and then nothing is changed. */
        private int mergeSet(int set, int length) {
            int shared = appendBlock();
            if (shared == FULL) {
                return FULL;
            }
            boolean filled = false;
            for (int block = 0; block < shared; block++) {
                if (contains(set, block)) {
                    if (filled) {
                        blocks[shared].uniteLines(blocks[block], length);
                    } else {
                        blocks[shared].appendTail(blocks[block], length);
                        filled = true;
                    }
                    blocks[block].replaceTailByJump(length, shared);
                }
            }
            return shared;
        }

        private int savingWithParameter(int first, int length) {
            return length + terminatorCost(first) - 2 * jumpCost - 2;
        }

        /** Answers the index of the new block, or FULL, and then nothing is changed. */
        private int mergePair(int first, int second, int length) {
            int shared = appendBlock();
            if (shared == FULL) {
                return FULL;
            }
            int back = 1;
            while (back < length && blocks[first].isEqualAt(blocks[second], back)) {
                back++;
            }
            blocks[shared].appendTail(blocks[first], length);
            blocks[shared].uniteLines(blocks[second], length);
            blocks[shared].takeParameterAt(back);
            blocks[first].replaceTailByParameter(length, back, shared);
            blocks[second].replaceTailByParameter(length, back, shared);
            return shared;
        }
    }

    /** Runs a program and keeps the results of the last run. */
    private static final class Machine {
        private final int[] values;
        private final int[] emitted;
        private int emittedCount;

        private Machine() {
            values = new int[REGISTERS];
            emitted = new int[MAX_STEPS];
            emittedCount = 0;
        }

        /** Answers the number of steps, or TIMEOUT. The program has at least one block. */
        private int execute(Program program, int maxSteps) {
            // The program's own register 7 can't be set and is 0, as a run wants it.
            System.arraycopy(program.initialValues, 0, values, 0, REGISTERS);
            emittedCount = 0;
            Block block = program.blocks[0];
            int index = 0;
            for (int step = 1; step <= maxSteps; step++) {
                if (index < block.count) {
                    perform(block, index);
                    index++;
                } else if (block.kind == RETURN) {
                    return step;
                } else {
                    block = program.blocks[successorOf(block)];
                    index = 0;
                }
            }
            return TIMEOUT;
        }

        private int successorOf(Block block) {
            int[] operands = block.terminatorOperands;
            if (block.kind == JUMP) {
                return operands[0];
            }
            return values[operands[0]] != 0 ? operands[1] : operands[2];
        }

        private void perform(Block block, int index) {
            int d = block.destinations[index];
            int a = block.operandsA[index];
            int b = block.operandsB[index];
            switch (block.opcodes[index]) {
                case CONST:
                    values[d] = a;
                    break;
                case COPY:
                    values[d] = values[a];
                    break;
                case ADD:
                    values[d] = values[a] + values[b];
                    break;
                case SUB:
                    values[d] = values[a] - values[b];
                    break;
                case MUL:
                    values[d] = values[a] * values[b];
                    break;
                case LESS:
                    values[d] = values[a] < values[b] ? 1 : 0;
                    break;
                default:
                    emit(values[a]);
                    break;
            }
        }

        private void emit(int value) {
            if (emittedCount < MAX_STEPS) {
                emitted[emittedCount] = value;
                emittedCount++;
            }
        }
    }
}
