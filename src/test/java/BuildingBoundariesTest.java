/** Promises 1 to 6 and what the description says of blocks and instructions: a method a boundary sentence. */
public final class BuildingBoundariesTest extends TestHelp {
    private static final int[] WITH_B = {ADD, SUB, MUL, LESS};
    private static final int[] WITHOUT_B = {CONST, COPY, EMIT};

    public static void main(String[] args) {
        newHasNoBlocks();
        newHasJumpCost1();
        newHasRegisters0();
        newHasNoRun();
        newHasNothingSaved();
        newIsNew();
        blockIndices();
        blocksFull();
        blocksFullByMerges();
        newBlock();
        opcodeRange();
        destinationRange();
        emitDestination();
        constNumberRange();
        operandARange();
        operandBRange();
        operandBZero();
        lineRange();
        oneLine();
        instructionIndices();
        instructionNoBlock();
        instructionRangeBeforeFull();
        instructionsFull();
        instructionsFullAfterMerges();
        jumpPrevious();
        jumpNoBlock();
        branchPrevious();
        branchNoBlock();
        branchBlockFirst();
        branchRegister();
        returnPrevious();
        returnNoBlock();
        returnRegister();
        CHECK.finish();
    }

    // ---- promise 1 ----

    private static void newHasNoBlocks() {
        sentence("promise 1", "No blocks");
        TailMerger x = new TailMerger();
        due("blockCount", x.blockCount(), 0);
        due("codeSize", x.codeSize(), 0);
        due("instructionCount(0)", x.instructionCount(0), NO_SUCH_BLOCK);
        due("setReturn(0, 0)", x.setReturn(0, 0), NO_SUCH_BLOCK);
        due("run(1)", x.run(1), NO_SUCH_BLOCK);
        due("the first block", x.addBlock(), 0);
    }

    private static void newHasJumpCost1() {
        sentence("promise 1", "jump cost 1");
        due("previous cost", new TailMerger().setJumpCost(0), 1);
        TailMerger x = withBlocks(1);
        x.setJump(0, 0);
        due("size of one jump", x.codeSize(), 1);
    }

    private static void newHasRegisters0() {
        sentence("promise 1", "all initial register values 0");
        TailMerger x = withBlocks(1);
        x.run(1);
        for (int register = 0; register < 8; register++) {
            due("register " + register, x.register(register), 0);
        }
    }

    private static void newHasNoRun() {
        sentence("promise 1", "no run made");
        TailMerger x = withBlocks(1);
        emits(x, 0, 1);
        x.setRegister(1, 5);
        due("traceLength", x.traceLength(), 0);
        due("trace(0)", x.trace(0), 0);
        for (int register = 0; register < 8; register++) {
            due("register " + register, x.register(register), 0);
        }
    }

    private static void newHasNothingSaved() {
        sentence("promise 1", "nothing saved");
        due("slot 0", new TailMerger().restore(0), NOT_SAVED);
        due("slot 1", new TailMerger().restore(1), NOT_SAVED);
    }

    /** What one object was told must not be found in the next one. */
    private static void newIsNew() {
        sentence("promise 1", "No blocks, jump cost 1, all initial register values 0, no run made, nothing saved.");
        TailMerger old = withBlocks(3);
        emits(old, 0, 1);
        old.setJumpCost(4);
        old.setRegister(1, 9);
        old.run(5);
        old.save(0);
        old.save(1);
        TailMerger x = new TailMerger();
        due("blocks", x.blockCount(), 0);
        due("trace", x.traceLength(), 0);
        due("register 1", x.register(1), 0);
        due("slot 0", x.restore(0), NOT_SAVED);
        due("slot 1", x.restore(1), NOT_SAVED);
        due("jump cost", x.setJumpCost(1), 1);
        x.addBlock();
        due("run", x.run(5), 1);
        due("initial value", x.register(1), 0);
        due("the old one's blocks", old.blockCount(), 3);
        due("the old one's trace", old.trace(0), 9);
    }

    // ---- promise 2 ----

    private static void blockIndices() {
        sentence("promise 2", "Creates a block; returns its index");
        TailMerger x = new TailMerger();
        for (int block = 0; block < 12; block++) {
            due("index", x.addBlock(), block);
            due("blocks", x.blockCount(), block + 1);
        }
    }

    private static void blocksFull() {
        sentence("promise 2", "FULL if there are 12 blocks");
        TailMerger x = withBlocks(11);
        due("with 11", x.addBlock(), 11);
        due("with 12", x.addBlock(), FULL);
        due("with 12 again", x.addBlock(), FULL);
        due("blocks", x.blockCount(), 12);
        due("block 12", x.instructionCount(12), NO_SUCH_BLOCK);
        TailMerger y = withBlocks(11);
        y.save(0);
        y.addBlock();
        due("full before restore", y.addBlock(), FULL);
        y.restore(0);
        due("room after restore", y.addBlock(), 11);
        y.save(1);
        y.restore(0);
        y.restore(1);
        due("full after restore", y.addBlock(), FULL);
    }

    private static void blocksFullByMerges() {
        sentence("promise 2", "FULL if there are 12 blocks");
        TailMerger x = withBlocks(10);
        emits(x, 0, 1, 2, 3);
        emits(x, 1, 1, 2, 3);
        constant(x, 2, 1, 4);
        constant(x, 3, 1, 5);
        due("a merged block", x.mergeTail(3), 10);
        due("a block of a parameter merge", x.mergeWithParameter(2, 3), 11);
        due("with 12", x.addBlock(), FULL);
    }

    private static void newBlock() {
        sentence("BLOCKS", "A new block has no instructions, and its terminator is a return of register 0.");
        TailMerger x = new TailMerger();
        for (int block = 0; block < 12; block++) {
            x.addBlock();
            due("instructions", x.instructionCount(block), 0);
            dueReturn(x, block, 0);
        }
        // Index 1 was used before, by a block with other contents.
        TailMerger y = withBlocks(1);
        y.save(0);
        y.addBlock();
        fill(y, 1);
        y.setBranch(1, 6, 1, 1);
        y.restore(0);
        y.addBlock();
        due("instructions", y.instructionCount(1), 0);
        dueReturn(y, 1, 0);
        due("no second operand", y.terminatorOperand(1, 1), NONE);
        due("hash", y.tailHash(1, 0), hash(RETURN, 0, 0, 0));
        due("common tail with another new block", y.commonTail(0, 1), 0);
    }

    // ---- promise 3 ----

    /** Adds to a new object's only block. */
    private static int add(int opcode, int d, int a, int b, int line) {
        return withBlocks(1).addInstruction(0, opcode, d, a, b, line);
    }

    private static void opcodeRange() {
        sentence("promise 3", "`opcode`: CONST to EMIT");
        for (int opcode = CONST; opcode <= EMIT; opcode++) {
            due("opcode " + opcode, add(opcode, 0, 0, 0, 0), 0);
        }
        for (int opcode : new int[] {-1, 7, MIN, MAX}) {
            due("opcode " + opcode, add(opcode, 0, 0, 0, 0), OUT_OF_RANGE);
        }
    }

    private static void destinationRange() {
        sentence("promise 3", "destination, 0 to 6");
        for (int opcode = CONST; opcode < EMIT; opcode++) {
            for (int d = 0; d <= 6; d++) {
                due("opcode " + opcode + ", d " + d, add(opcode, d, 1, 0, 0), 0);
            }
            for (int d : new int[] {-1, 7, 8, MIN, MAX}) {
                due("opcode " + opcode + ", d " + d, add(opcode, d, 1, 0, 0), OUT_OF_RANGE);
            }
        }
    }

    private static void emitDestination() {
        sentence("promise 3", "or 0 for EMIT");
        due("d 0", add(EMIT, 0, 1, 0, 0), 0);
        for (int d : new int[] {-1, 1, 6, 7, MIN, MAX}) {
            due("d " + d, add(EMIT, d, 1, 0, 0), OUT_OF_RANGE);
        }
    }

    private static void constNumberRange() {
        sentence("promise 3", "a number from -999 to 999 for CONST");
        for (int number : new int[] {-999, -1, 0, 7, 8, 999}) {
            TailMerger x = withBlocks(1);
            due("number " + number, x.addInstruction(0, CONST, 1, number, 0, 0), 0);
            due("kept", x.operandA(0, 0), number);
        }
        for (int number : new int[] {-1000, 1000, MIN, MAX}) {
            due("number " + number, add(CONST, 1, number, 0, 0), OUT_OF_RANGE);
        }
    }

    private static void operandARange() {
        sentence("promise 3", "otherwise a register, 0 to 6");
        for (int opcode = COPY; opcode <= EMIT; opcode++) {
            for (int a = 0; a <= 6; a++) {
                due("opcode " + opcode + ", a " + a, add(opcode, 0, a, 0, 0), 0);
            }
            for (int a : new int[] {-1, 7, 8, -999, 999, MIN, MAX}) {
                due("opcode " + opcode + ", a " + a, add(opcode, 0, a, 0, 0), OUT_OF_RANGE);
            }
        }
    }

    private static void operandBRange() {
        sentence("promise 3", "`b`: a register, 0 to 6, for ADD, SUB, MUL and LESS");
        for (int opcode : WITH_B) {
            for (int b = 0; b <= 6; b++) {
                due("opcode " + opcode + ", b " + b, add(opcode, 0, 0, b, 0), 0);
            }
            for (int b : new int[] {-1, 7, 8, MIN, MAX}) {
                due("opcode " + opcode + ", b " + b, add(opcode, 0, 0, b, 0), OUT_OF_RANGE);
            }
        }
    }

    private static void operandBZero() {
        sentence("promise 3", "for ADD, SUB, MUL and LESS, otherwise 0");
        for (int opcode : WITHOUT_B) {
            due("opcode " + opcode + ", b 0", add(opcode, 0, 0, 0, 0), 0);
            for (int b : new int[] {-1, 1, 6, 7, MIN, MAX}) {
                due("opcode " + opcode + ", b " + b, add(opcode, 0, 0, b, 0), OUT_OF_RANGE);
            }
        }
    }

    private static void lineRange() {
        sentence("promise 3", "`line`: 0 to 30");
        for (int opcode = CONST; opcode <= EMIT; opcode++) {
            due("line 0", add(opcode, 0, 0, 0, 0), 0);
            due("line 30", add(opcode, 0, 0, 0, 30), 0);
            for (int line : new int[] {-1, 31, 32, MIN, MAX}) {
                due("opcode " + opcode + ", line " + line, add(opcode, 0, 0, 0, line), OUT_OF_RANGE);
            }
        }
    }

    private static void oneLine() {
        sentence("INSTRUCTIONS", "An added instruction has exactly one line.");
        for (int line = 0; line <= 30; line++) {
            TailMerger x = withBlocks(1);
            x.addInstruction(0, EMIT, 0, 0, 0, line);
            due("line " + line, x.lines(0, 0), 1 << line);
        }
    }

    private static void instructionIndices() {
        sentence("promise 3", "Returns the index of the instruction");
        TailMerger x = withBlocks(12);
        for (int index = 0; index < 10; index++) {
            due("in block 0", x.addInstruction(0, ADD, 1, 2, 3, index), index);
            due("in block 11", x.addInstruction(11, CONST, 1, index, 0, index), index);
        }
        due("block 0 has its own", x.opcode(0, 9), ADD);
        due("block 11 has its own", x.operandA(11, 9), 9);
        due("a refused call takes no index", refusedThenAdded(), 0);
    }

    private static int refusedThenAdded() {
        TailMerger x = withBlocks(1);
        x.addInstruction(0, EMIT, 0, 7, 0, 0);
        return x.addInstruction(0, EMIT, 0, 6, 0, 0);
    }

    private static void instructionNoBlock() {
        sentence("promise 3", "NO_SUCH_BLOCK if the block does not exist (checked first)");
        TailMerger x = withBlocks(2);
        for (int block : strangers(2)) {
            due("block " + block, x.addInstruction(block, CONST, 0, 0, 0, 0), NO_SUCH_BLOCK);
            due("and opcode", x.addInstruction(block, 7, 0, 0, 0, 0), NO_SUCH_BLOCK);
            due("and d", x.addInstruction(block, ADD, 7, 0, 0, 0), NO_SUCH_BLOCK);
            due("and a", x.addInstruction(block, ADD, 0, 7, 0, 0), NO_SUCH_BLOCK);
            due("and b", x.addInstruction(block, ADD, 0, 0, 7, 0), NO_SUCH_BLOCK);
            due("and line", x.addInstruction(block, ADD, 0, 0, 0, 31), NO_SUCH_BLOCK);
        }
        due("without blocks", new TailMerger().addInstruction(0, CONST, 0, 0, 0, 0), NO_SUCH_BLOCK);
        due("twelve, block 12", withBlocks(12).addInstruction(12, CONST, 0, 0, 0, 0), NO_SUCH_BLOCK);
    }

    private static void instructionRangeBeforeFull() {
        sentence("promise 3", "OUT_OF_RANGE if any other argument is out of range for the opcode (checked second)");
        TailMerger x = withBlocks(1);
        fill(x, 0);
        int[][] wrong = {{7, 0, 0, 0, 0}, {-1, 0, 0, 0, 0}, {CONST, 7, 0, 0, 0}, {CONST, 0, 1000, 0, 0},
                {CONST, 0, -1000, 0, 0}, {CONST, 0, 0, 1, 0}, {COPY, 7, 0, 0, 0}, {COPY, 0, 7, 0, 0},
                {COPY, 0, 0, 1, 0}, {ADD, 7, 0, 0, 0}, {SUB, 0, 7, 0, 0}, {MUL, 0, 0, 7, 0}, {LESS, -1, 0, 0, 0},
                {EMIT, 1, 0, 0, 0}, {EMIT, 0, 7, 0, 0}, {EMIT, 0, 0, 1, 0}, {EMIT, 0, 0, 0, 31},
                {EMIT, 0, 0, 0, -1}};
        for (int[] row : wrong) {
            due("opcode " + row[0] + " in a full block",
                    x.addInstruction(0, row[0], row[1], row[2], row[3], row[4]), OUT_OF_RANGE);
        }
        due("nothing wrong in a full block", x.addInstruction(0, EMIT, 0, 0, 0, 0), FULL);
    }

    private static void instructionsFull() {
        sentence("promise 3", "FULL if the block has 10 instructions");
        TailMerger x = withBlocks(12);
        for (int block = 0; block < 12; block++) {
            emits(x, block, 0, 0, 0, 0, 0, 0, 0, 0, 0);
            due("the tenth", x.addInstruction(block, ADD, 0, 0, 0, 0), 9);
            due("the eleventh", x.addInstruction(block, ADD, 0, 0, 0, 0), FULL);
            due("instructions", x.instructionCount(block), 10);
            due("index 10", x.opcode(block, 10), NO_SUCH_INSTRUCTION);
        }
        due("size", x.codeSize(), 132);
    }

    private static void instructionsFullAfterMerges() {
        sentence("promise 3", "FULL if the block has 10 instructions");
        TailMerger x = withBlocks(2);
        fill(x, 0);
        fill(x, 1);
        x.mergeTail(3);
        due("the new block has all ten", x.addInstruction(2, EMIT, 0, 0, 0, 0), FULL);
        due("the old one has room", x.addInstruction(0, EMIT, 0, 0, 0, 0), 0);

        TailMerger y = withBlocks(2);
        for (int block = 0; block < 2; block++) {
            constant(y, block, 1, block);
            emits(y, block, 0, 0, 0, 0, 0, 0, 0, 0, 0);
        }
        y.mergeWithParameter(0, 1);
        due("the new block has all ten", y.addInstruction(2, EMIT, 0, 0, 0, 0), FULL);
        due("the old one has room for nine", y.addInstruction(0, EMIT, 0, 0, 0, 0), 1);
        emits(y, 0, 0, 0, 0, 0, 0, 0, 0);
        due("the tenth", y.addInstruction(0, EMIT, 0, 0, 0, 0), 9);
        due("the eleventh", y.addInstruction(0, EMIT, 0, 0, 0, 0), FULL);
    }

    // ---- promises 4 to 6 ----

    private static void jumpPrevious() {
        sentence("promise 4", "Returns the kind of the previous terminator");
        TailMerger x = withBlocks(12);
        due("of a new block, to the last one", x.setJump(0, 11), RETURN);
        dueJump(x, 0, 11);
        due("of a jump, to itself", x.setJump(0, 0), JUMP);
        dueJump(x, 0, 0);
        x.setBranch(0, 1, 2, 3);
        due("of a branch", x.setJump(0, 1), BRANCH);
        dueJump(x, 0, 1);
    }

    private static void jumpNoBlock() {
        sentence("promise 4", "NO_SUCH_BLOCK if either block does not exist");
        TailMerger x = withBlocks(2);
        for (int stranger : strangers(2)) {
            due("block " + stranger, x.setJump(stranger, 0), NO_SUCH_BLOCK);
            due("target " + stranger, x.setJump(0, stranger), NO_SUCH_BLOCK);
            due("both " + stranger, x.setJump(stranger, stranger), NO_SUCH_BLOCK);
        }
        dueReturn(x, 0, 0);
        due("without blocks", new TailMerger().setJump(0, 0), NO_SUCH_BLOCK);
        due("twelve, block 12", withBlocks(12).setJump(12, 0), NO_SUCH_BLOCK);
        due("twelve, target 12", withBlocks(12).setJump(0, 12), NO_SUCH_BLOCK);
    }

    private static void branchPrevious() {
        sentence("promise 5", "Returns the kind of the previous terminator");
        TailMerger x = withBlocks(12);
        due("of a new block", x.setBranch(11, 6, 0, 11), RETURN);
        dueBranch(x, 11, 6, 0, 11);
        due("of a branch", x.setBranch(11, 0, 11, 0), BRANCH);
        dueBranch(x, 11, 0, 11, 0);
        x.setJump(11, 3);
        due("of a jump", x.setBranch(11, 1, 1, 1), JUMP);
        dueBranch(x, 11, 1, 1, 1);
    }

    private static void branchNoBlock() {
        sentence("promise 5", "NO_SUCH_BLOCK if any of the three blocks does not exist");
        TailMerger x = withBlocks(2);
        for (int stranger : strangers(2)) {
            due("block " + stranger, x.setBranch(stranger, 0, 0, 1), NO_SUCH_BLOCK);
            due("if not zero " + stranger, x.setBranch(0, 0, stranger, 1), NO_SUCH_BLOCK);
            due("if zero " + stranger, x.setBranch(0, 0, 1, stranger), NO_SUCH_BLOCK);
        }
        dueReturn(x, 0, 0);
        due("without blocks", new TailMerger().setBranch(0, 0, 0, 0), NO_SUCH_BLOCK);
        due("twelve, target 12", withBlocks(12).setBranch(0, 0, 0, 12), NO_SUCH_BLOCK);
    }

    private static void branchBlockFirst() {
        sentence("promise 5", "NO_SUCH_BLOCK if any of the three blocks does not exist (checked first)");
        TailMerger x = withBlocks(2);
        for (int register : new int[] {-1, 7, MIN, MAX}) {
            due("block and register", x.setBranch(2, register, 0, 1), NO_SUCH_BLOCK);
            due("if not zero and register", x.setBranch(0, register, 2, 1), NO_SUCH_BLOCK);
            due("if zero and register", x.setBranch(0, register, 1, 2), NO_SUCH_BLOCK);
        }
    }

    private static void branchRegister() {
        sentence("promise 5", "OUT_OF_RANGE if register is out of range");
        TailMerger x = withBlocks(2);
        for (int register : new int[] {-1, 7, 8, MIN, MAX}) {
            due("register " + register, x.setBranch(0, register, 0, 1), OUT_OF_RANGE);
        }
        dueReturn(x, 0, 0);
        for (int register = 0; register <= 6; register++) {
            due("register " + register, x.setBranch(0, register, 0, 1), register == 0 ? RETURN : BRANCH);
            due("kept", x.terminatorOperand(0, 0), register);
        }
    }

    private static void returnPrevious() {
        sentence("promise 6", "Returns the kind of the previous terminator");
        TailMerger x = withBlocks(12);
        due("of a new block", x.setReturn(11, 6), RETURN);
        dueReturn(x, 11, 6);
        x.setJump(11, 3);
        due("of a jump", x.setReturn(11, 1), JUMP);
        dueReturn(x, 11, 1);
        x.setBranch(11, 1, 2, 3);
        due("of a branch", x.setReturn(11, 0), BRANCH);
        dueReturn(x, 11, 0);
    }

    private static void returnNoBlock() {
        sentence("promise 6", "NO_SUCH_BLOCK if the block does not exist (checked first)");
        TailMerger x = withBlocks(2);
        for (int stranger : strangers(2)) {
            due("block " + stranger, x.setReturn(stranger, 0), NO_SUCH_BLOCK);
            due("and register 7", x.setReturn(stranger, 7), NO_SUCH_BLOCK);
            due("and register -1", x.setReturn(stranger, -1), NO_SUCH_BLOCK);
        }
        due("without blocks", new TailMerger().setReturn(0, 0), NO_SUCH_BLOCK);
        due("twelve, block 12", withBlocks(12).setReturn(12, 0), NO_SUCH_BLOCK);
    }

    private static void returnRegister() {
        sentence("promise 6", "OUT_OF_RANGE if register is out of range");
        TailMerger x = withBlocks(1);
        x.setReturn(0, 3);
        for (int register : new int[] {-1, 7, 8, MIN, MAX}) {
            due("register " + register, x.setReturn(0, register), OUT_OF_RANGE);
        }
        dueReturn(x, 0, 3);
        for (int register = 0; register <= 6; register++) {
            due("register " + register, x.setReturn(0, register), RETURN);
            due("kept", x.terminatorOperand(0, 0), register);
        }
    }
}
