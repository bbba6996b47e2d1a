/** One method a promise of the document, with its edges, its wrong inputs and the order of its errors. */
public final class PromisesTest extends TestHelp {
    public static void main(String[] args) {
        newObject();
        addBlock();
        addInstruction();
        addInstructionWrong();
        setJump();
        setBranch();
        setReturn();
        blockCount();
        instructionCount();
        instructionReaders();
        terminatorKind();
        terminatorOperand();
        tailHash();
        commonTail();
        parameterTail();
        parameterTailAndRegister7();
        setJumpCost();
        codeSize();
        tailSaving();
        bestTail();
        mergeTail();
        mergeTailErrors();
        parameterSaving();
        mergeWithParameter();
        mergeWithParameterErrors();
        mergeAll();
        mergeAllStopsWhenFull();
        setRegister();
        run();
        runOpcodes();
        traceLength();
        trace();
        register();
        save();
        restore();
        CHECK.finish();
    }

    // ---- building ----

    private static void newObject() {
        CHECK.sentence("promise 1");
        TailMerger x = new TailMerger();
        due("no blocks", x.blockCount(), 0);
        due("no code", x.codeSize(), 0);
        due("no block 0", x.terminatorKind(0), NO_SUCH_BLOCK);
        due("no trace", x.traceLength(), 0);
        for (int register = 0; register < 8; register++) {
            due("no run made, register " + register, x.register(register), 0);
        }
        due("nothing saved in 0", x.restore(0), NOT_SAVED);
        due("nothing saved in 1", x.restore(1), NOT_SAVED);
        due("jump cost", x.setJumpCost(1), 1);
        x.addBlock();
        due("run", x.run(1), 1);
        for (int register = 0; register < 8; register++) {
            due("initial value of " + register, x.register(register), 0);
        }
    }

    private static void addBlock() {
        CHECK.sentence("promise 2");
        TailMerger x = new TailMerger();
        for (int block = 0; block < 12; block++) {
            due("block", x.addBlock(), block);
            due("no instructions", x.instructionCount(block), 0);
            dueReturn(x, block, 0);
        }
        due("thirteenth", x.addBlock(), FULL);
        due("count after FULL", x.blockCount(), 12);

        TailMerger y = withBlocks(1);
        y.save(0);
        y.addBlock();
        y.addInstruction(1, CONST, 1, 2, 0, 3);
        y.setBranch(1, 2, 0, 1);
        y.restore(0);
        due("block again after restore", y.addBlock(), 1);
        due("a new block is empty", y.instructionCount(1), 0);
        dueReturn(y, 1, 0);
        due("a new block is as any other", y.commonTail(0, 1), 0);
    }

    private static void addInstruction() {
        CHECK.sentence("promise 3");
        TailMerger x = withBlocks(3);
        due("CONST, lowest", x.addInstruction(1, CONST, 0, -999, 0, 0), 0);
        due("CONST, highest", x.addInstruction(1, CONST, 6, 999, 0, 30), 1);
        due("COPY", x.addInstruction(1, COPY, 6, 6, 0, 1), 2);
        due("ADD", x.addInstruction(1, ADD, 6, 5, 4, 2), 3);
        due("SUB", x.addInstruction(1, SUB, 0, 6, 6, 3), 4);
        due("MUL", x.addInstruction(1, MUL, 1, 2, 3, 4), 5);
        due("LESS", x.addInstruction(1, LESS, 3, 2, 1, 5), 6);
        due("EMIT", x.addInstruction(1, EMIT, 0, 6, 0, 29), 7);
        dueInstruction(x, 1, 0, CONST, 0, -999, 0, 1);
        dueInstruction(x, 1, 1, CONST, 6, 999, 0, 1 << 30);
        dueInstruction(x, 1, 2, COPY, 6, 6, 0, 2);
        dueInstruction(x, 1, 3, ADD, 6, 5, 4, 4);
        dueInstruction(x, 1, 4, SUB, 0, 6, 6, 8);
        dueInstruction(x, 1, 5, MUL, 1, 2, 3, 16);
        dueInstruction(x, 1, 6, LESS, 3, 2, 1, 32);
        dueInstruction(x, 1, 7, EMIT, 0, 6, 0, 1 << 29);
        due("ninth", x.addInstruction(1, EMIT, 0, 0, 0, 0), 8);
        due("tenth", x.addInstruction(1, EMIT, 0, 0, 0, 0), 9);
        due("eleventh", x.addInstruction(1, EMIT, 0, 0, 0, 0), FULL);
        due("count after FULL", x.instructionCount(1), 10);
        due("other block stays", x.instructionCount(0), 0);
        due("other block has room", x.addInstruction(2, EMIT, 0, 0, 0, 0), 0);
        due("range before FULL", x.addInstruction(1, EMIT, 0, 0, 0, 31), OUT_OF_RANGE);
        due("block before range", x.addInstruction(3, 7, 7, 7, 7, 31), NO_SUCH_BLOCK);
        due("negative block", x.addInstruction(-1, CONST, 0, 0, 0, 0), NO_SUCH_BLOCK);
        due("least block", x.addInstruction(MIN, CONST, 0, 0, 0, 0), NO_SUCH_BLOCK);
        due("greatest block", x.addInstruction(MAX, CONST, 0, 0, 0, 0), NO_SUCH_BLOCK);
    }

    private static void addInstructionWrong() {
        CHECK.sentence("promise 3");
        TailMerger x = withBlocks(1);
        int[] badRegisters = {-1, 7, 8, MIN, MAX};
        for (int bad : badRegisters) {
            for (int opcode = CONST; opcode <= EMIT; opcode++) {
                String what = "opcode " + opcode + " with " + bad;
                due("d, " + what, x.addInstruction(0, opcode, bad, 0, 0, 0), OUT_OF_RANGE);
                due("b, " + what, x.addInstruction(0, opcode, 0, 0, bad, 0), OUT_OF_RANGE);
                if (opcode != CONST) {
                    due("a, " + what, x.addInstruction(0, opcode, 0, bad, 0, 0), OUT_OF_RANGE);
                }
            }
            due("opcode " + bad, x.addInstruction(0, bad, 0, 0, 0, 0), OUT_OF_RANGE);
        }
        due("CONST -1000", x.addInstruction(0, CONST, 0, -1000, 0, 0), OUT_OF_RANGE);
        due("CONST 1000", x.addInstruction(0, CONST, 0, 1000, 0, 0), OUT_OF_RANGE);
        due("CONST least", x.addInstruction(0, CONST, 0, MIN, 0, 0), OUT_OF_RANGE);
        due("CONST greatest", x.addInstruction(0, CONST, 0, MAX, 0, 0), OUT_OF_RANGE);
        due("CONST with b", x.addInstruction(0, CONST, 0, 0, 1, 0), OUT_OF_RANGE);
        due("COPY with b", x.addInstruction(0, COPY, 0, 0, 6, 0), OUT_OF_RANGE);
        due("EMIT with b", x.addInstruction(0, EMIT, 0, 0, 1, 0), OUT_OF_RANGE);
        due("EMIT with d", x.addInstruction(0, EMIT, 1, 0, 0, 0), OUT_OF_RANGE);
        int[] badLines = {-1, 31, 32, MIN, MAX};
        for (int bad : badLines) {
            due("line " + bad, x.addInstruction(0, CONST, 0, 0, 0, bad), OUT_OF_RANGE);
        }
        due("nothing was added", x.instructionCount(0), 0);
    }

    private static void setJump() {
        CHECK.sentence("promise 4");
        TailMerger x = withBlocks(3);
        due("on a return", x.setJump(0, 2), RETURN);
        dueJump(x, 0, 2);
        due("on a jump, to itself", x.setJump(0, 0), JUMP);
        dueJump(x, 0, 0);
        x.setBranch(0, 1, 1, 2);
        due("on a branch", x.setJump(0, 1), BRANCH);
        dueJump(x, 0, 1);
        due("no operand of the branch left", x.terminatorOperand(0, 1), NONE);
        x.setJump(2, 1);
        due("equal to a jump made on a return", x.commonTail(0, 2), 0);
        due("no block", x.setJump(3, 0), NO_SUCH_BLOCK);
        due("no target", x.setJump(0, 3), NO_SUCH_BLOCK);
        due("negative block", x.setJump(-1, 0), NO_SUCH_BLOCK);
        due("negative target", x.setJump(0, -1), NO_SUCH_BLOCK);
        dueJump(x, 0, 1);
    }

    private static void setBranch() {
        CHECK.sentence("promise 5");
        TailMerger x = withBlocks(3);
        due("on a return", x.setBranch(0, 6, 1, 2), RETURN);
        due("kind", x.terminatorKind(0), BRANCH);
        due("register", x.terminatorOperand(0, 0), 6);
        due("not zero", x.terminatorOperand(0, 1), 1);
        due("zero", x.terminatorOperand(0, 2), 2);
        due("on a branch", x.setBranch(0, 0, 0, 0), BRANCH);
        x.setJump(1, 0);
        due("on a jump", x.setBranch(1, 0, 0, 0), JUMP);
        due("register 7", x.setBranch(0, 7, 1, 1), OUT_OF_RANGE);
        due("register -1", x.setBranch(0, -1, 1, 1), OUT_OF_RANGE);
        due("block before register", x.setBranch(3, 7, 0, 0), NO_SUCH_BLOCK);
        due("first target before register", x.setBranch(0, 7, 3, 0), NO_SUCH_BLOCK);
        due("second target before register", x.setBranch(0, 7, 0, 3), NO_SUCH_BLOCK);
        due("negative block", x.setBranch(-1, 0, 0, 0), NO_SUCH_BLOCK);
        due("negative first target", x.setBranch(0, 0, -1, 0), NO_SUCH_BLOCK);
        due("negative second target", x.setBranch(0, 0, 0, -1), NO_SUCH_BLOCK);
        due("nothing changed", x.terminatorOperand(0, 1), 0);
    }

    private static void setReturn() {
        CHECK.sentence("promise 6");
        TailMerger x = withBlocks(2);
        due("on a return", x.setReturn(1, 6), RETURN);
        dueReturn(x, 1, 6);
        x.setJump(1, 0);
        due("on a jump", x.setReturn(1, 0), JUMP);
        x.setBranch(1, 0, 1, 1);
        due("on a branch", x.setReturn(1, 0), BRANCH);
        due("equal to a new block's terminator", x.commonTail(0, 1), 0);
        due("register 7", x.setReturn(1, 7), OUT_OF_RANGE);
        due("register -1", x.setReturn(1, -1), OUT_OF_RANGE);
        due("block before register", x.setReturn(2, 7), NO_SUCH_BLOCK);
        due("negative block", x.setReturn(-1, 0), NO_SUCH_BLOCK);
        dueReturn(x, 1, 0);
    }

    // ---- reading ----

    private static void blockCount() {
        CHECK.sentence("promise 7");
        TailMerger x = withBlocks(3);
        due("three", x.blockCount(), 3);
        emits(x, 0, 1, 2);
        emits(x, 1, 1, 2);
        x.mergeTail(3);
        due("a merge makes one more", x.blockCount(), 4);
        due("all", withBlocks(12).blockCount(), 12);
    }

    private static void instructionCount() {
        CHECK.sentence("promise 8");
        TailMerger x = withBlocks(2);
        emits(x, 1, 0, 0, 0);
        due("none", x.instructionCount(0), 0);
        due("three", x.instructionCount(1), 3);
        due("no block", x.instructionCount(2), NO_SUCH_BLOCK);
        due("negative", x.instructionCount(-1), NO_SUCH_BLOCK);
        due("least", x.instructionCount(MIN), NO_SUCH_BLOCK);
        due("greatest", x.instructionCount(MAX), NO_SUCH_BLOCK);
    }

    private static void instructionReaders() {
        TailMerger x = withBlocks(2);
        x.addInstruction(1, SUB, 1, 2, 3, 4);
        int[][] wrong = {{2, 0, NO_SUCH_BLOCK}, {-1, 0, NO_SUCH_BLOCK}, {2, 9, NO_SUCH_BLOCK},
                {MAX, MAX, NO_SUCH_BLOCK}, {MIN, MIN, NO_SUCH_BLOCK}, {1, 1, NO_SUCH_INSTRUCTION},
                {1, -1, NO_SUCH_INSTRUCTION}, {0, 0, NO_SUCH_INSTRUCTION}, {1, 10, NO_SUCH_INSTRUCTION},
                {1, MAX, NO_SUCH_INSTRUCTION}, {1, MIN, NO_SUCH_INSTRUCTION}};
        CHECK.sentence("promise 9");
        due("opcode", x.opcode(1, 0), SUB);
        CHECK.sentence("promise 10");
        due("destination", x.destination(1, 0), 1);
        CHECK.sentence("promise 11");
        due("operand a", x.operandA(1, 0), 2);
        CHECK.sentence("promise 12");
        due("operand b", x.operandB(1, 0), 3);
        CHECK.sentence("promise 13");
        due("line set", x.lines(1, 0), 16);
        for (int[] row : wrong) {
            String what = row[0] + "," + row[1];
            CHECK.sentence("promise 9");
            due(what, x.opcode(row[0], row[1]), row[2]);
            CHECK.sentence("promise 10");
            due(what, x.destination(row[0], row[1]), row[2]);
            CHECK.sentence("promise 11");
            due(what, x.operandA(row[0], row[1]), row[2]);
            CHECK.sentence("promise 12");
            due(what, x.operandB(row[0], row[1]), row[2]);
            CHECK.sentence("promise 13");
            due(what, x.lines(row[0], row[1]), row[2]);
        }
    }

    private static void terminatorKind() {
        CHECK.sentence("promise 14");
        TailMerger x = withBlocks(3);
        x.setJump(0, 1);
        x.setBranch(1, 0, 1, 2);
        due("jump", x.terminatorKind(0), JUMP);
        due("branch", x.terminatorKind(1), BRANCH);
        due("return", x.terminatorKind(2), RETURN);
        due("no block", x.terminatorKind(3), NO_SUCH_BLOCK);
        due("negative", x.terminatorKind(-1), NO_SUCH_BLOCK);
    }

    private static void terminatorOperand() {
        CHECK.sentence("promise 15");
        TailMerger x = withBlocks(4);
        x.setJump(0, 3);
        x.setBranch(1, 4, 2, 3);
        x.setReturn(2, 5);
        due("jump 0", x.terminatorOperand(0, 0), 3);
        due("branch 0", x.terminatorOperand(1, 0), 4);
        due("branch 1", x.terminatorOperand(1, 1), 2);
        due("branch 2", x.terminatorOperand(1, 2), 3);
        due("return 0", x.terminatorOperand(2, 0), 5);
        due("jump 1", x.terminatorOperand(0, 1), NONE);
        due("branch 3", x.terminatorOperand(1, 3), NONE);
        due("return 1", x.terminatorOperand(2, 1), NONE);
        due("return 2", x.terminatorOperand(2, 2), NONE);
        for (int block = 0; block < 3; block++) {
            due("-1 of " + block, x.terminatorOperand(block, -1), NONE);
            due("least of " + block, x.terminatorOperand(block, MIN), NONE);
            due("greatest of " + block, x.terminatorOperand(block, MAX), NONE);
        }
        due("block before index", x.terminatorOperand(4, 9), NO_SUCH_BLOCK);
        due("negative block", x.terminatorOperand(-1, 0), NO_SUCH_BLOCK);
    }

    // ---- tails ----

    private static void tailHash() {
        CHECK.sentence("promise 16");
        TailMerger x = withBlocks(3);
        x.addInstruction(0, CONST, 3, -999, 0, 1);
        x.addInstruction(0, LESS, 4, 5, 6, 2);
        x.setBranch(0, 2, 1, 2);
        due("branch alone", x.tailHash(0, 0), hash(1, 2, 1, 2));
        due("one instruction", x.tailHash(0, 1), hash(5, 4, 5, 6, 1, 2, 1, 2));
        due("both", x.tailHash(0, 2), hash(0, 3, -999, 0, 5, 4, 5, 6, 1, 2, 1, 2));
        x.setJump(0, 2);
        due("jump: no operands of the branch", x.tailHash(0, 0), hash(0, 2, 0, 0));
        x.setReturn(0, 5);
        due("return", x.tailHash(0, 0), hash(2, 5, 0, 0));
        x.addInstruction(1, LESS, 4, 5, 6, 9);
        x.setReturn(1, 5);
        due("equal tails, other lines", x.tailHash(1, 1), x.tailHash(0, 1));
        boolean seenBoth = false;
        for (int number = -999; number < -949; number++) {
            TailMerger y = withBlocks(1);
            y.addInstruction(0, CONST, 0, number, 0, 0);
            y.addInstruction(0, CONST, 6, -number, 0, 0);
            int want = hash(0, 0, number, 0, 0, 6, -number, 0, 2, 0, 0, 0);
            due("two CONST", y.tailHash(0, 2), want);
            seenBoth |= want != unclearedHash(0, 0, number, 0, 0, 6, -number, 0, 2, 0, 0, 0);
        }
        CHECK.holds("a hash with a cleared sign bit was seen", seenBoth);
        due("length -1", x.tailHash(0, -1), OUT_OF_RANGE);
        due("too long", x.tailHash(0, 3), OUT_OF_RANGE);
        due("least length", x.tailHash(0, MIN), OUT_OF_RANGE);
        due("greatest length", x.tailHash(0, MAX), OUT_OF_RANGE);
        due("block before length", x.tailHash(3, -1), NO_SUCH_BLOCK);
        due("negative block", x.tailHash(-1, 0), NO_SUCH_BLOCK);
    }

    private static void commonTail() {
        CHECK.sentence("promise 17");
        TailMerger x = withBlocks(4);
        emits(x, 0, 1, 2, 3);
        emits(x, 1, 0, 2, 3);
        emits(x, 2, 2, 3);
        due("two", x.commonTail(0, 1), 2);
        due("the whole of the shorter one", x.commonTail(2, 0), 2);
        due("an empty block", x.commonTail(0, 3), 0);
        emits(x, 3, 4);
        due("nothing equal", x.commonTail(0, 3), 0);
        x.setReturn(1, 1);
        due("other registers returned", x.commonTail(0, 1), DIFFERENT);
        x.setJump(0, 2);
        due("other kinds", x.commonTail(0, 2), DIFFERENT);
        x.setJump(1, 3);
        due("other targets", x.commonTail(0, 1), DIFFERENT);
        x.setBranch(0, 0, 1, 2);
        int[][] others = {{1, 1, 2}, {0, 2, 2}, {0, 1, 1}};
        for (int[] other : others) {
            x.setBranch(1, other[0], other[1], other[2]);
            due("other branches", x.commonTail(0, 1), DIFFERENT);
        }
        x.setBranch(1, 0, 1, 2);
        due("equal branches", x.commonTail(0, 1), 2);
        due("same block", x.commonTail(1, 1), OUT_OF_RANGE);
        due("block before same", x.commonTail(4, 4), NO_SUCH_BLOCK);
        due("no second", x.commonTail(0, 4), NO_SUCH_BLOCK);
        due("negative first", x.commonTail(-1, 0), NO_SUCH_BLOCK);
        commonTailComparesEachField();
    }

    private static void commonTailComparesEachField() {
        int[][] others = {{SUB, 1, 2, 3}, {ADD, 0, 2, 3}, {ADD, 1, 0, 3}, {ADD, 1, 2, 0}};
        for (int[] other : others) {
            TailMerger x = withBlocks(2);
            x.addInstruction(0, ADD, 1, 2, 3, 0);
            x.addInstruction(1, other[0], other[1], other[2], other[3], 0);
            due("one field differs", x.commonTail(0, 1), 0);
        }
        TailMerger x = withBlocks(2);
        x.addInstruction(0, ADD, 1, 2, 3, 0);
        x.addInstruction(1, ADD, 1, 2, 3, 30);
        due("line sets do not matter", x.commonTail(0, 1), 1);
    }

    private static void parameterTail() {
        CHECK.sentence("promise 18");
        TailMerger x = withBlocks(3);
        emits(x, 0, 5, 4);
        x.addInstruction(0, CONST, 1, 7, 0, 0);
        emits(x, 0, 1);
        emits(x, 1, 6, 4);
        x.addInstruction(1, CONST, 1, -7, 0, 0);
        emits(x, 1, 1);
        due("equal ones before and behind", x.parameterTail(0, 1), 3);
        due("the other way round", x.parameterTail(1, 0), 3);
        due("no difference within the shorter one", x.parameterTail(0, 2), DIFFERENT);
        x.setReturn(0, 3);
        due("other registers returned", x.parameterTail(0, 1), DIFFERENT);
        x.setJump(0, 2);
        x.setJump(1, 2);
        due("equal jumps", x.parameterTail(0, 1), DIFFERENT);
        x.setBranch(0, 0, 1, 2);
        x.setBranch(1, 0, 1, 2);
        due("equal branches", x.parameterTail(0, 1), DIFFERENT);
        x.setReturn(0, 3);
        x.setReturn(1, 3);
        due("equal returns", x.parameterTail(0, 1), 3);
        due("same block", x.parameterTail(0, 0), OUT_OF_RANGE);
        due("block before same", x.parameterTail(3, 3), NO_SUCH_BLOCK);
        due("negative second", x.parameterTail(0, -1), NO_SUCH_BLOCK);

        TailMerger y = withBlocks(2);
        due("empty blocks", y.parameterTail(0, 1), DIFFERENT);
        emits(y, 0, 1, 2);
        emits(y, 1, 1, 2);
        due("equal blocks", y.parameterTail(0, 1), DIFFERENT);
        TailMerger z = withBlocks(2);
        z.addInstruction(0, CONST, 1, 1, 0, 0);
        z.addInstruction(1, CONST, 2, 2, 0, 0);
        due("other destinations", z.parameterTail(0, 1), DIFFERENT);
        z.addInstruction(0, CONST, 3, 1, 0, 0);
        z.addInstruction(1, CONST, 3, 2, 0, 0);
        due("before a second difference", z.parameterTail(0, 1), 1);
        z.addInstruction(0, CONST, 3, 1, 0, 0);
        z.addInstruction(1, CONST, 3, 2, 0, 0);
        due("before a second pair of CONST", z.parameterTail(0, 1), 1);
        z.addInstruction(0, CONST, 0, 1, 0, 0);
        z.addInstruction(1, COPY, 0, 1, 0, 0);
        due("CONST and COPY", z.parameterTail(0, 1), DIFFERENT);
    }

    private static void parameterTailAndRegister7() {
        CHECK.sentence("promise 18");
        TailMerger x = withBlocks(4);
        for (int block = 0; block < 4; block++) {
            x.addInstruction(block, CONST, 1, 10 * block, 0, 0);
        }
        x.mergeWithParameter(0, 1);
        x.mergeWithParameter(2, 3);
        // Blocks 4 and 5 are COPY 1 from 7; blocks 0 to 3 are CONST 7.
        x.setReturn(0, 0);
        x.setReturn(1, 0);
        due("only writes of register 7 differ", x.parameterTail(0, 1), DIFFERENT);
        for (int block = 0; block < 6; block++) {
            x.setReturn(block, 0);
            x.addInstruction(block, CONST, 2, block, 0, 0);
        }
        due("up to equal reads of register 7", x.parameterTail(4, 5), 1);
        due("up to writes of register 7", x.parameterTail(0, 1), 1);
        due("up to a read in the first", x.parameterTail(4, 0), 1);
        due("the number 7 is no register", constsAndSeven().parameterTail(0, 1), 2);
    }

    private static TailMerger constsAndSeven() {
        TailMerger x = withBlocks(2);
        x.addInstruction(0, CONST, 0, 7, 0, 0);
        x.addInstruction(1, CONST, 0, 7, 0, 0);
        x.addInstruction(0, CONST, 0, 7, 0, 0);
        x.addInstruction(1, CONST, 0, 8, 0, 0);
        return x;
    }

    // ---- size and merges ----

    private static void setJumpCost() {
        CHECK.sentence("promise 19");
        TailMerger x = withBlocks(1);
        x.setJump(0, 0);
        due("first", x.setJumpCost(5), 1);
        due("second", x.setJumpCost(0), 5);
        due("third", x.setJumpCost(3), 0);
        due("6", x.setJumpCost(6), OUT_OF_RANGE);
        due("-1", x.setJumpCost(-1), OUT_OF_RANGE);
        due("least", x.setJumpCost(MIN), OUT_OF_RANGE);
        due("greatest", x.setJumpCost(MAX), OUT_OF_RANGE);
        due("stays after an error", x.codeSize(), 3);
        due("previous", x.setJumpCost(3), 3);
    }

    private static void codeSize() {
        CHECK.sentence("promise 20");
        TailMerger x = new TailMerger();
        due("no blocks", x.codeSize(), 0);
        x.addBlock();
        due("a return", x.codeSize(), 1);
        emits(x, 0, 1, 2, 3);
        due("with instructions", x.codeSize(), 4);
        x.addBlock();
        x.setBranch(1, 0, 0, 1);
        due("with a branch", x.codeSize(), 6);
        x.addBlock();
        x.setJump(2, 0);
        due("with a jump", x.codeSize(), 7);
        x.setJumpCost(5);
        due("with a dear jump", x.codeSize(), 11);
        x.setJumpCost(0);
        due("with a free jump", x.codeSize(), 6);
    }

    private static void tailSaving() {
        CHECK.sentence("promise 21");
        TailMerger x = withBlocks(4);
        emits(x, 0, 3, 1, 2);
        emits(x, 1, 3, 1, 2);
        emits(x, 2, 1, 2);
        due("two blocks, three instructions", x.tailSaving(3), 2);
        due("two blocks, two instructions", x.tailSaving(6), 1);
        due("three blocks", x.tailSaving(7), 3);
        due("with an empty one", x.tailSaving(15), -1);
        x.setJumpCost(5);
        due("dear jumps", x.tailSaving(15), -17);
        due("dear jumps, three", x.tailSaving(7), -9);
        for (int block = 0; block < 3; block++) {
            x.setJump(block, 3);
        }
        due("jumps", x.tailSaving(7), -1);
        for (int block = 0; block < 3; block++) {
            x.setBranch(block, 0, 3, 3);
        }
        due("branches", x.tailSaving(7), -7);
        due("other terminators", x.tailSaving(15), DIFFERENT);
        due("one of three differs", x.tailSaving(11), DIFFERENT);
        due("one block", x.tailSaving(8), OUT_OF_RANGE);
        due("no block", x.tailSaving(0), OUT_OF_RANGE);
        due("block 4 before the number of blocks", x.tailSaving(16), NO_SUCH_BLOCK);
        due("block 4 before the terminators", x.tailSaving(31), NO_SUCH_BLOCK);
        due("negative", x.tailSaving(-1), NO_SUCH_BLOCK);
        due("least", x.tailSaving(MIN), NO_SUCH_BLOCK);
        due("greatest", x.tailSaving(MAX), NO_SUCH_BLOCK);
        TailMerger mixed = withBlocks(3);
        mixed.setJumpCost(5);
        mixed.setBranch(1, 0, 0, 0);
        mixed.setBranch(2, 0, 0, 0);
        due("the terminator of the set's own blocks", mixed.tailSaving(6), -8);
        TailMerger full = withBlocks(12);
        due("all twelve", full.tailSaving(4095), -1);
        due("block 12 of twelve", full.tailSaving(4096), NO_SUCH_BLOCK);
        due("sign bit with two blocks", full.tailSaving(MIN + 3), NO_SUCH_BLOCK);
    }

    private static void bestTail() {
        CHECK.sentence("promise 22");
        due("no blocks", new TailMerger().bestTail(), NONE);
        due("one block", withBlocks(1).bestTail(), NONE);
        due("savings of 0 and less", withBlocks(3).bestTail(), NONE);
        TailMerger x = withBlocks(6);
        emits(x, 1, 1, 2, 3);
        emits(x, 3, 0, 2, 3);
        emits(x, 4, 1, 2, 3);
        due("the longer tail of fewer", x.tailSaving(18), 2);
        due("the shorter tail of more", x.tailSaving(26), 3);
        due("the greater of the two", x.bestTail(), 26);
        emits(x, 0, 5, 6, 4, 3, 2);
        emits(x, 5, 5, 6, 4, 3, 2);
        due("a later set with a greater saving", x.bestTail(), 33);
        x.setJumpCost(5);
        due("jumps too dear", x.bestTail(), NONE);

        TailMerger tie = withBlocks(4);
        emits(tie, 0, 1, 2, 3);
        emits(tie, 3, 1, 2, 3);
        emits(tie, 1, 4, 5, 6);
        emits(tie, 2, 4, 5, 6);
        due("tie: smallest number, not the first block", tie.bestTail(), 6);

        TailMerger free = withBlocks(4);
        free.setJumpCost(0);
        free.setJump(3, 0);
        due("free jumps: all returns", free.bestTail(), 7);
        free.setJump(2, 0);
        free.setJump(1, 0);
        due("free jumps: merging jumps saves nothing", free.bestTail(), NONE);
    }

    private static void mergeTail() {
        CHECK.sentence("promise 23");
        TailMerger x = withBlocks(4);
        for (int block = 0; block < 4; block++) {
            if (block != 2) {
                x.addInstruction(block, CONST, 0, block, 0, block);
                x.addInstruction(block, MUL, 3, 2, 1, 10 + block);
                x.addInstruction(block, EMIT, 0, 3, 0, 20 + block);
            }
            x.setBranch(block, 3, 0, 2);
        }
        due("new block", x.mergeTail(11), 4);
        due("tail's length", x.instructionCount(4), 2);
        dueInstruction(x, 4, 0, MUL, 3, 2, 1, 11 << 10);
        dueInstruction(x, 4, 1, EMIT, 0, 3, 0, 11 << 20);
        due("tail's terminator", x.terminatorKind(4), BRANCH);
        due("tail's register", x.terminatorOperand(4, 0), 3);
        due("tail's first block", x.terminatorOperand(4, 1), 0);
        due("tail's second block", x.terminatorOperand(4, 2), 2);
        for (int block = 0; block < 4; block++) {
            if (block != 2) {
                due("what is left", x.instructionCount(block), 1);
                dueInstruction(x, block, 0, CONST, 0, block, 0, 1 << block);
                dueJump(x, block, 4);
            }
        }
        due("other block stays", x.terminatorKind(2), BRANCH);
        x.setJump(2, 4);
        due("the jump is as any other", x.commonTail(0, 2), 0);
        due("the jump's hash", x.tailHash(0, 0), hash(JUMP, 4, 0, 0));

        TailMerger empty = withBlocks(2);
        empty.setJumpCost(0);
        due("an empty tail", empty.mergeTail(3), 2);
        due("an empty shared block", empty.instructionCount(2), 0);
        dueReturn(empty, 2, 0);
        mergeOfUnitedLines();
    }

    private static void mergeOfUnitedLines() {
        TailMerger x = withBlocks(3);
        emits(x, 0, 1, 2, 3);
        emits(x, 1, 1, 2, 3);
        emits(x, 2, 1, 2, 3);
        x.mergeTail(3);
        due("a merged block merges again", x.mergeTail(12), 4);
        dueInstruction(x, 4, 2, EMIT, 0, 3, 0, 7);
        dueJump(x, 3, 4);
        dueJump(x, 0, 3);
    }

    private static void mergeTailErrors() {
        CHECK.sentence("promise 23");
        TailMerger x = withBlocks(3);
        emits(x, 0, 1);
        emits(x, 1, 1);
        due("saving 0", x.tailSaving(3), 0);
        due("not profitable", x.mergeTail(3), NOT_PROFITABLE);
        x.setJump(2, 0);
        due("different", x.mergeTail(7), DIFFERENT);
        due("one block", x.mergeTail(4), OUT_OF_RANGE);
        due("no block", x.mergeTail(0), OUT_OF_RANGE);
        due("block 3 before the number of blocks", x.mergeTail(8), NO_SUCH_BLOCK);
        due("block 3 before the terminators", x.mergeTail(15), NO_SUCH_BLOCK);
        due("negative", x.mergeTail(MIN), NO_SUCH_BLOCK);
        due("nothing merged", x.blockCount(), 3);
        due("nothing removed", x.instructionCount(0), 1);

        TailMerger full = withBlocks(12);
        emits(full, 0, 1, 2);
        emits(full, 1, 1, 2);
        full.setJump(2, 0);
        due("different before full", full.mergeTail(5), DIFFERENT);
        due("not profitable before full", full.mergeTail(9), NOT_PROFITABLE);
        due("full", full.mergeTail(3), FULL);
        due("nothing removed when full", full.instructionCount(0), 2);
        dueReturn(full, 0, 0);
    }

    private static void parameterSaving() {
        CHECK.sentence("promise 24");
        TailMerger x = withBlocks(3);
        x.addInstruction(0, CONST, 1, 1, 0, 0);
        x.addInstruction(1, CONST, 1, 2, 0, 0);
        emits(x, 0, 1, 2, 3);
        emits(x, 1, 1, 2, 3);
        due("k + t - 2 - 2", x.parameterSaving(0, 1), 1);
        x.setJumpCost(5);
        due("dear jumps", x.parameterSaving(0, 1), -7);
        x.setJumpCost(0);
        due("free jumps", x.parameterSaving(1, 0), 3);
        due("no parameter tail", x.parameterSaving(0, 2), DIFFERENT);
        due("same block", x.parameterSaving(2, 2), OUT_OF_RANGE);
        due("block before same", x.parameterSaving(3, 3), NO_SUCH_BLOCK);
        due("negative first", x.parameterSaving(-1, 0), NO_SUCH_BLOCK);
        due("no second", x.parameterSaving(0, 3), NO_SUCH_BLOCK);
    }

    private static void mergeWithParameter() {
        CHECK.sentence("promise 25");
        TailMerger x = withBlocks(2);
        for (int block = 0; block < 2; block++) {
            x.addInstruction(block, EMIT, 0, 4 + block, 0, 8 + block);
            x.addInstruction(block, ADD, 1, 2, 3, 2 + block);
            x.addInstruction(block, CONST, 6, block == 0 ? 999 : -999, 0, 4 + block);
            x.addInstruction(block, EMIT, 0, 6, 0, 6 + block);
            x.setReturn(block, 5);
        }
        due("the new block", x.mergeWithParameter(1, 0), 2);
        due("its length", x.instructionCount(2), 3);
        dueInstruction(x, 2, 0, ADD, 1, 2, 3, 3 << 2);
        dueInstruction(x, 2, 1, COPY, 6, 7, 0, 3 << 4);
        dueInstruction(x, 2, 2, EMIT, 0, 6, 0, 3 << 6);
        dueReturn(x, 2, 5);
        due("left in 0", x.instructionCount(0), 2);
        due("left in 1", x.instructionCount(1), 2);
        dueInstruction(x, 0, 0, EMIT, 0, 4, 0, 1 << 8);
        dueInstruction(x, 0, 1, CONST, 7, 999, 0, 1 << 4);
        dueInstruction(x, 1, 0, EMIT, 0, 5, 0, 1 << 9);
        dueInstruction(x, 1, 1, CONST, 7, -999, 0, 1 << 5);
        dueJump(x, 0, 2);
        dueJump(x, 1, 2);
        due("run of the merged code", x.run(10), 7);
        due("its trace", x.trace(1), 999);
        due("its register 7", x.register(7), 999);
    }

    private static void mergeWithParameterErrors() {
        CHECK.sentence("promise 25");
        TailMerger x = withBlocks(12);
        x.addInstruction(0, CONST, 1, 1, 0, 0);
        x.addInstruction(1, CONST, 1, 2, 0, 0);
        due("different before full", x.mergeWithParameter(0, 2), DIFFERENT);
        due("same block", x.mergeWithParameter(0, 0), OUT_OF_RANGE);
        due("block before same", x.mergeWithParameter(12, 12), NO_SUCH_BLOCK);
        due("negative second", x.mergeWithParameter(0, -1), NO_SUCH_BLOCK);
        due("full", x.mergeWithParameter(0, 1), FULL);
        dueInstruction(x, 0, 0, CONST, 1, 1, 0, 1);
        dueReturn(x, 0, 0);
        due("no block made", x.blockCount(), 12);

        TailMerger y = withBlocks(11);
        for (int index = 0; index < 10; index++) {
            y.addInstruction(3, CONST, 1, index, 0, 0);
            y.addInstruction(4, CONST, 1, index == 9 ? 0 : index, 0, 0);
        }
        due("not profitable, with ten instructions", y.mergeWithParameter(3, 4), 11);
        due("whole block moved", y.instructionCount(11), 10);
        due("CONST left", y.instructionCount(3), 1);
    }

    private static void mergeAll() {
        CHECK.sentence("promise 26");
        due("no blocks", new TailMerger().mergeAll(), 0);
        TailMerger x = withBlocks(4);
        emits(x, 0, 0, 1, 2, 3);
        emits(x, 1, 0, 1, 2, 3);
        emits(x, 2, 5, 5, 2, 3);
        emits(x, 3, 6, 6, 2, 3);
        // First all four by their last two, then the two jumps to block 4 that share two more.
        due("best first", x.bestTail(), 15);
        due("merges", x.mergeAll(), 2);
        due("blocks", x.blockCount(), 6);
        dueJump(x, 0, 5);
        dueJump(x, 5, 4);
        dueJump(x, 2, 4);
        due("size", x.codeSize(), 20 - 5 - 1);
        due("nothing left", x.mergeAll(), 0);

        TailMerger y = withBlocks(3);
        y.setJumpCost(0);
        emits(y, 0, 1, 2, 3, 4);
        emits(y, 1, 1, 2, 3, 4);
        emits(y, 2, 4);
        due("also with a block made before", y.mergeAll(), 2);
        dueJump(y, 3, 4);
        dueJump(y, 2, 4);
        due("left in the block made before", y.instructionCount(3), 3);
    }

    private static void mergeAllStopsWhenFull() {
        CHECK.sentence("promise 26");
        TailMerger x = withBlocks(10);
        for (int pair = 0; pair < 5; pair++) {
            emits(x, 2 * pair, pair, pair, pair, pair);
            emits(x, 2 * pair + 1, pair, pair, pair, pair);
        }
        due("room for two", x.mergeAll(), 2);
        due("twelve blocks", x.blockCount(), 12);
        due("more would be profitable", x.bestTail() == NONE ? 0 : 1, 1);
        due("no room", x.mergeAll(), 0);
    }

    // ---- running ----

    private static void setRegister() {
        CHECK.sentence("promise 27");
        TailMerger x = withBlocks(1);
        for (int register = 0; register < 7; register++) {
            due("register " + register, x.setRegister(register, MIN + register), 1);
        }
        due("again", x.setRegister(3, MAX), 1);
        due("register 7", x.setRegister(7, 1), OUT_OF_RANGE);
        due("register 8", x.setRegister(8, 1), OUT_OF_RANGE);
        due("register -1", x.setRegister(-1, 1), OUT_OF_RANGE);
        due("not before a run", x.register(0), 0);
        x.run(1);
        for (int register = 0; register < 7; register++) {
            due("value of " + register, x.register(register), register == 3 ? MAX : MIN + register);
        }
        due("value of 7", x.register(7), 0);
    }

    private static void run() {
        CHECK.sentence("promise 28");
        TailMerger x = new TailMerger();
        due("no blocks", x.run(1), NO_SUCH_BLOCK);
        due("range before blocks, 0", x.run(0), OUT_OF_RANGE);
        due("range before blocks, 1001", x.run(1001), OUT_OF_RANGE);
        due("least", x.run(MIN), OUT_OF_RANGE);
        due("greatest", x.run(MAX), OUT_OF_RANGE);
        x.save(0);
        x.addBlock();
        x.addBlock();
        x.addBlock();
        x.addInstruction(0, CONST, 1, 4, 0, 0);
        emits(x, 0, 1);
        x.setBranch(0, 0, 1, 2);
        emits(x, 1, 1, 1);
        due("zero: second block", x.run(1000), 4);
        due("its trace", x.traceLength(), 1);
        x.setRegister(0, -1);
        due("not zero: first block", x.run(1000), 6);
        due("its trace", x.traceLength(), 3);
        due("exactly enough", x.run(6), 6);
        due("one too few", x.run(5), TIMEOUT);
        due("a timeout's trace", x.traceLength(), 3);
        due("one step", x.run(1), TIMEOUT);
        due("one step's trace", x.traceLength(), 0);
        due("one step's register", x.register(1), 4);
        x.run(6);
        due("wrong steps make no run", x.run(0), OUT_OF_RANGE);
        due("results stay", x.traceLength(), 3);
        x.restore(0);
        due("no blocks again", x.run(5), NO_SUCH_BLOCK);
        due("results stay", x.trace(2), 4);
        due("registers stay", x.register(1), 4);
        runsStartAnew();
    }

    private static void runsStartAnew() {
        TailMerger x = withBlocks(2);
        x.addInstruction(0, ADD, 0, 0, 0, 0);
        emits(x, 0, 0);
        x.setJump(0, 1);
        x.setRegister(0, 21);
        due("first run", x.run(9), 4);
        due("second run", x.run(9), 4);
        due("initial values stay", x.trace(0), 42);
        due("trace begins anew", x.traceLength(), 1);

        TailMerger y = withBlocks(2);
        y.addInstruction(0, CONST, 1, 5, 0, 0);
        y.addInstruction(1, CONST, 1, 6, 0, 0);
        y.mergeWithParameter(0, 1);
        y.run(9);
        due("register 7 after the parameter", y.register(7), 5);
        due("register 7 is 0 at the start", startAtCopy().register(1), 0);
    }

    /** A program whose block 0 reads register 7 before anything has written it, run twice. */
    private static TailMerger startAtCopy() {
        TailMerger x = withBlocks(3);
        x.addInstruction(1, CONST, 1, 5, 0, 0);
        x.addInstruction(2, CONST, 1, 6, 0, 0);
        x.mergeWithParameter(1, 2);
        x.setJump(0, 1);
        x.run(9);
        x.setJump(0, 3);
        x.setRegister(1, 77);
        x.run(9);
        return x;
    }

    private static void runOpcodes() {
        CHECK.sentence("promise 28");
        int[][] cases = {{ADD, MAX, 1, MIN}, {ADD, 2, 3, 5}, {SUB, 2, 3, -1}, {SUB, MIN, 1, MAX},
                {MUL, 65536, 65536, 0}, {MUL, MAX, 2, -2}, {MUL, -3, 5, -15}, {LESS, 1, 2, 1},
                {LESS, 2, 2, 0}, {LESS, 3, 2, 0}, {LESS, MIN, MAX, 1}, {LESS, MAX, MIN, 0},
                {COPY, 9, 8, 9}, {CONST, 9, 8, 1}};
        for (int[] row : cases) {
            TailMerger x = withBlocks(1);
            x.setRegister(1, row[1]);
            x.setRegister(2, row[2]);
            x.setRegister(3, 123);
            int b = row[0] == CONST || row[0] == COPY ? 0 : 2;
            x.addInstruction(0, row[0], 3, 1, b, 0);
            emits(x, 0, 3);
            due("steps", x.run(10), 3);
            due("opcode " + row[0] + " of " + row[1] + ", " + row[2], x.trace(0), row[3]);
            due("register 1 stays", x.register(1), row[1]);
            due("register 2 stays", x.register(2), row[2]);
        }
    }

    private static void traceLength() {
        CHECK.sentence("promise 29");
        TailMerger x = withBlocks(1);
        due("no run", x.traceLength(), 0);
        for (int index = 0; index < 10; index++) {
            emits(x, 0, 0);
        }
        x.setJump(0, 0);
        due("timeout", x.run(1000), TIMEOUT);
        due("longest trace", x.traceLength(), 910);
        x.setReturn(0, 0);
        due("ended", x.run(1000), 11);
        due("ten", x.traceLength(), 10);
    }

    private static void trace() {
        CHECK.sentence("promise 30");
        TailMerger x = withBlocks(1);
        due("no run", x.trace(0), 0);
        x.addInstruction(0, ADD, 0, 0, 1, 0);
        for (int index = 0; index < 9; index++) {
            emits(x, 0, 0);
        }
        x.setRegister(1, 1);
        x.setJump(0, 0);
        x.run(1000);
        // 90 rounds of 11 steps, then an ADD and nine EMITs.
        due("length", x.traceLength(), 819);
        for (int index = 0; index < 819; index += 17) {
            due("value " + index, x.trace(index), index / 9 + 1);
        }
        due("last", x.trace(818), 91);
        due("behind the last", x.trace(819), 0);
        due("-1", x.trace(-1), 0);
        due("least", x.trace(MIN), 0);
        due("greatest", x.trace(MAX), 0);
        x.setReturn(0, 0);
        x.run(1000);
        due("in a shorter trace", x.trace(8), 1);
        due("behind a shorter trace", x.trace(9), 0);
    }

    private static void register() {
        CHECK.sentence("promise 31");
        TailMerger x = withBlocks(1);
        x.setRegister(6, 9);
        due("no run", x.register(6), 0);
        x.addInstruction(0, CONST, 5, -7, 0, 0);
        x.run(1);
        due("timeout", x.register(5), -7);
        due("initial value", x.register(6), 9);
        x.setRegister(6, 10);
        due("of the last run", x.register(6), 9);
        due("register 8", x.register(8), 0);
        due("register -1", x.register(-1), 0);
        due("least", x.register(MIN), 0);
        due("greatest", x.register(MAX), 0);
    }

    // ---- saving ----

    private static void save() {
        CHECK.sentence("promise 32");
        TailMerger x = withBlocks(1);
        due("slot 0", x.save(0), 1);
        due("slot 2", x.save(2), OUT_OF_RANGE);
        due("slot -1", x.save(-1), OUT_OF_RANGE);
        due("least", x.save(MIN), OUT_OF_RANGE);
        due("slot 1 stays empty", x.restore(1), NOT_SAVED);
        x.addBlock();
        due("slot 1", x.save(1), 1);
        x.addBlock();
        due("slot 0 again", x.save(0), 1);
        due("from slot 1", x.restore(1), 1);
        due("two blocks", x.blockCount(), 2);
        due("overwritten slot 0", x.restore(0), 1);
        due("three blocks", x.blockCount(), 3);
        TailMerger full = withBlocks(12);
        due("twelve blocks", full.save(1), 1);
        due("twelve blocks back", full.restore(1), 1);
        due("all twelve", full.blockCount(), 12);
    }

    private static void restore() {
        CHECK.sentence("promise 33");
        TailMerger x = withBlocks(3);
        x.addInstruction(0, SUB, 1, 2, 3, 4);
        x.addInstruction(0, EMIT, 0, 1, 0, 5);
        x.setBranch(0, 5, 1, 2);
        x.setJumpCost(4);
        x.setRegister(2, 50);
        x.save(1);
        due("slot 0", x.restore(0), NOT_SAVED);
        due("slot 2", x.restore(2), OUT_OF_RANGE);
        due("slot -1", x.restore(-1), OUT_OF_RANGE);
        for (int round = 0; round < 2; round++) {
            x.addBlock();
            emits(x, 0, 1);
            emits(x, 1, 1);
            x.setJump(0, 1);
            x.setJumpCost(2);
            x.setRegister(2, 60);
            x.run(10);
            due("restored", x.restore(1), 1);
            due("results stay", x.traceLength(), 3);
            due("registers stay", x.register(2), 60);
            due("blocks", x.blockCount(), 3);
            due("instructions of 0", x.instructionCount(0), 2);
            due("instructions of 1", x.instructionCount(1), 0);
            dueInstruction(x, 0, 0, SUB, 1, 2, 3, 16);
            dueInstruction(x, 0, 1, EMIT, 0, 1, 0, 32);
            due("kind", x.terminatorKind(0), BRANCH);
            due("operand 0", x.terminatorOperand(0, 0), 5);
            due("operand 1", x.terminatorOperand(0, 1), 1);
            due("operand 2", x.terminatorOperand(0, 2), 2);
            due("jump cost", x.setJumpCost(4), 4);
            due("run", x.run(10), 4);
            due("initial value", x.trace(0), 50);
        }
    }
}
