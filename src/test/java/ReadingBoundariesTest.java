/** Promises 7 to 15: a method a boundary sentence. */
public final class ReadingBoundariesTest extends TestHelp {
    /** One of the five methods that read an instruction. */
    private interface Reader {
        int read(TailMerger x, int block, int index);
    }

    private static final int[] WRONG_INDICES = {-1, 10, 11, MIN, MAX};

    public static void main(String[] args) {
        blockCounts();
        instructionCounts();
        instructionCountNoBlock();
        // The document has the five share opcode's errors; each value here is unlike the four others.
        readers("promise 9", TailMerger::opcode, SUB, EMIT);
        readers("promise 10", TailMerger::destination, 4, 0);
        readers("promise 11", TailMerger::operandA, 5, 6);
        readers("promise 12", TailMerger::operandB, 6, 0);
        readers("promise 13", TailMerger::lines, 1 << 7, 1 << 30);
        lineSets();
        kinds();
        kindNoBlock();
        operands();
        operandNoBlock();
        operandNone();
        operandNoneAfterChange();
        CHECK.finish();
    }

    private static void blockCounts() {
        sentence("promise 7", "Returns the number of blocks.");
        TailMerger x = new TailMerger();
        due("none", x.blockCount(), 0);
        x.save(0);
        for (int count = 1; count <= 12; count++) {
            x.addBlock();
            due("added", x.blockCount(), count);
        }
        x.addBlock();
        due("a refused block", x.blockCount(), 12);
        x.restore(0);
        due("restored", x.blockCount(), 0);
        TailMerger y = withBlocks(3);
        emits(y, 0, 1, 2);
        emits(y, 1, 1, 2);
        y.mergeTail(3);
        due("after a merge", y.blockCount(), 4);
    }

    private static void instructionCounts() {
        sentence("promise 8", "Returns the number of instructions of a block");
        TailMerger x = withBlocks(12);
        for (int count = 0; count <= 10; count++) {
            due("in block 11", x.instructionCount(11), count);
            due("in block 0", x.instructionCount(0), 0);
            emits(x, 11, 0);
        }
        due("after a refused one", x.instructionCount(11), 10);
        TailMerger y = withBlocks(2);
        emits(y, 0, 0, 1, 2);
        emits(y, 1, 3, 1, 2);
        y.mergeTail(3);
        due("what a merge left", y.instructionCount(0), 1);
        due("what a merge moved", y.instructionCount(2), 2);
    }

    private static void instructionCountNoBlock() {
        sentence("promise 8", "NO_SUCH_BLOCK if it does not exist");
        for (int count : new int[] {0, 2, 12}) {
            for (int stranger : strangers(count)) {
                due(count + " blocks, " + stranger, withBlocks(count).instructionCount(stranger), NO_SUCH_BLOCK);
            }
        }
    }

    /** The values due are those of SUB 4, 5, 6 from line 7 and of EMIT 6 from line 30. */
    private static void readers(String promise, Reader reader, int ofSub, int ofEmit) {
        readerValues(promise, reader, ofSub, ofEmit);
        readerNoBlock(promise, reader);
        readerNoInstruction(promise, reader);
        readerOfRemoved(promise, reader);
    }

    /** A block with SUB at indices 0 and 9 and EMIT between them, behind an empty one. */
    private static TailMerger withFullBlock() {
        TailMerger x = withBlocks(2);
        x.addInstruction(1, SUB, 4, 5, 6, 7);
        for (int index = 1; index < 9; index++) {
            x.addInstruction(1, EMIT, 0, 6, 0, 30);
        }
        x.addInstruction(1, SUB, 4, 5, 6, 7);
        return x;
    }

    private static void readerValues(String promise, Reader reader, int ofSub, int ofEmit) {
        sentence(promise, "of an instruction");
        TailMerger x = withFullBlock();
        due("index 0", reader.read(x, 1, 0), ofSub);
        due("index 1", reader.read(x, 1, 1), ofEmit);
        due("index 8", reader.read(x, 1, 8), ofEmit);
        due("index 9", reader.read(x, 1, 9), ofSub);
    }

    private static void readerNoBlock(String promise, Reader reader) {
        sentence(promise, "NO_SUCH_BLOCK if the block does not exist (checked first)");
        TailMerger x = withFullBlock();
        for (int stranger : strangers(2)) {
            due("block " + stranger, reader.read(x, stranger, 0), NO_SUCH_BLOCK);
            for (int index : WRONG_INDICES) {
                due("block " + stranger + " and index " + index, reader.read(x, stranger, index), NO_SUCH_BLOCK);
            }
        }
        due("without blocks", reader.read(new TailMerger(), 0, 0), NO_SUCH_BLOCK);
        due("twelve, block 12", reader.read(withBlocks(12), 12, 0), NO_SUCH_BLOCK);
    }

    private static void readerNoInstruction(String promise, Reader reader) {
        sentence(promise, "NO_SUCH_INSTRUCTION if it has no instruction with that index");
        TailMerger x = withFullBlock();
        for (int index : WRONG_INDICES) {
            due("full block, index " + index, reader.read(x, 1, index), NO_SUCH_INSTRUCTION);
            due("empty block, index " + index, reader.read(x, 0, index), NO_SUCH_INSTRUCTION);
        }
        due("empty block, index 0", reader.read(x, 0, 0), NO_SUCH_INSTRUCTION);
        emits(x, 0, 1, 2);
        due("two instructions, index 2", reader.read(x, 0, 2), NO_SUCH_INSTRUCTION);
        due("two instructions, index 9", reader.read(x, 0, 9), NO_SUCH_INSTRUCTION);
    }

    private static void readerOfRemoved(String promise, Reader reader) {
        sentence(promise, "NO_SUCH_INSTRUCTION if it has no instruction with that index");
        TailMerger x = withBlocks(2);
        emits(x, 0, 5, 1, 2, 3);
        emits(x, 1, 6, 1, 2, 3);
        x.save(0);
        x.mergeTail(3);
        due("moved by a merge", reader.read(x, 0, 1), NO_SUCH_INSTRUCTION);
        due("not in the new block", reader.read(x, 2, 3), NO_SUCH_INSTRUCTION);
        x.restore(0);
        due("not in the block restored away", reader.read(x, 2, 0), NO_SUCH_BLOCK);
        emits(x, 0, 4);
        x.restore(0);
        due("restored away", reader.read(x, 0, 4), NO_SUCH_INSTRUCTION);

        TailMerger y = withBlocks(2);
        constant(y, 0, 1, 3);
        emits(y, 0, 1);
        constant(y, 1, 1, 4);
        emits(y, 1, 1);
        y.mergeWithParameter(0, 1);
        due("moved by a parameter merge", reader.read(y, 0, 1), NO_SUCH_INSTRUCTION);
    }

    private static void lineSets() {
        sentence("INSTRUCTIONS", "bit n is set if the instruction comes from source line n, 0 to 30");
        TailMerger x = withBlocks(2);
        for (int block = 0; block < 2; block++) {
            x.addInstruction(block, ADD, 1, 2, 3, 30 * block);
            x.addInstruction(block, EMIT, 0, 1, 0, 1 + 28 * block);
        }
        due("line 0", x.lines(0, 0), 1);
        due("line 30", x.lines(1, 0), 1073741824);
        x.mergeTail(3);
        due("lines 0 and 30", x.lines(2, 0), 1073741825);
        due("lines 1 and 29", x.lines(2, 1), 536870914);
    }

    private static void kinds() {
        sentence("promise 14", "Returns the kind of the terminator of a block");
        TailMerger x = withBlocks(12);
        due("of a new block", x.terminatorKind(11), RETURN);
        x.setJump(11, 0);
        due("of a jump", x.terminatorKind(11), JUMP);
        x.setBranch(11, 0, 0, 0);
        due("of a branch", x.terminatorKind(11), BRANCH);
        due("of another block", x.terminatorKind(0), RETURN);
    }

    private static void kindNoBlock() {
        sentence("promise 14", "NO_SUCH_BLOCK if it does not exist");
        for (int count : new int[] {0, 2, 12}) {
            for (int stranger : strangers(count)) {
                due(count + " blocks, " + stranger, withBlocks(count).terminatorKind(stranger), NO_SUCH_BLOCK);
            }
        }
    }

    private static TailMerger withEachKind() {
        TailMerger x = withBlocks(12);
        x.setJump(0, 11);
        x.setBranch(1, 6, 10, 11);
        x.setReturn(2, 6);
        return x;
    }

    private static void operands() {
        sentence("promise 15", "for JUMP 0 the target; for BRANCH 0 the register, 1 the block if not zero, "
                + "2 the block if zero; for RETURN 0 the register");
        TailMerger x = withEachKind();
        due("jump 0", x.terminatorOperand(0, 0), 11);
        due("branch 0", x.terminatorOperand(1, 0), 6);
        due("branch 1", x.terminatorOperand(1, 1), 10);
        due("branch 2", x.terminatorOperand(1, 2), 11);
        due("return 0", x.terminatorOperand(2, 0), 6);
    }

    private static void operandNoBlock() {
        sentence("promise 15", "NO_SUCH_BLOCK if the block does not exist (checked first)");
        TailMerger x = withBlocks(2);
        for (int stranger : strangers(2)) {
            for (int index : new int[] {0, 1, 3, -1, MIN, MAX}) {
                due("block " + stranger + ", index " + index, x.terminatorOperand(stranger, index), NO_SUCH_BLOCK);
            }
        }
        due("without blocks", new TailMerger().terminatorOperand(0, 0), NO_SUCH_BLOCK);
        due("twelve, block 12", withBlocks(12).terminatorOperand(12, 0), NO_SUCH_BLOCK);
    }

    private static void operandNone() {
        sentence("promise 15", "NONE if the terminator has no operand with that index");
        TailMerger x = withEachKind();
        for (int block = 0; block < 3; block++) {
            for (int index : new int[] {-1, 3, 4, MIN, MAX}) {
                due("block " + block + ", index " + index, x.terminatorOperand(block, index), NONE);
            }
        }
        for (int index = 1; index <= 2; index++) {
            due("jump " + index, x.terminatorOperand(0, index), NONE);
            due("return " + index, x.terminatorOperand(2, index), NONE);
            due("return of a new block " + index, x.terminatorOperand(3, index), NONE);
        }
    }

    private static void operandNoneAfterChange() {
        sentence("promise 15", "NONE if the terminator has no operand with that index");
        TailMerger x = withBlocks(2);
        x.setBranch(0, 1, 1, 1);
        x.setJump(0, 1);
        due("branch made a jump", x.terminatorOperand(0, 1), NONE);
        x.setBranch(0, 1, 1, 1);
        x.setReturn(0, 1);
        due("branch made a return", x.terminatorOperand(0, 2), NONE);
        for (int block = 0; block < 2; block++) {
            emits(x, block, 1, 2);
            x.setBranch(block, 1, 1, 1);
        }
        x.mergeTail(3);
        due("branch made a jump by a merge", x.terminatorOperand(0, 1), NONE);
        due("the new block's branch", x.terminatorOperand(2, 2), 1);
    }
}
