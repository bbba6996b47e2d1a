/**
 * "A call that returns an error code changes nothing": each error code of each method, asked of one of two
 * objects that were made alike; then all that calls can tell of the two must be equal.
 */
public final class RefusedCallsTest extends TestHelp {
    /** Makes an object; always the same one. */
    private interface Recipe {
        TailMerger make();
    }

    public static void main(String[] args) {
        building();
        readingInstructions();
        readingBlocks();
        tails();
        tailMerges();
        parameterMerges();
        runs();
        saving();
        emptyProgram();
        fullProgram();
        CHECK.finish();
    }

    private static void refused(String promise, String what, Recipe recipe, int error, Call call) {
        sentence(promise, "A call that returns an error code changes nothing.");
        TailMerger asked = recipe.make();
        TailMerger left = recipe.make();
        due(what, call.on(asked), error);
        dueSame("after " + what, asked, left);
    }

    /** The same call on a program in use; most errors can be had there. */
    private static void refused(String promise, String what, int error, Call call) {
        refused(promise, what, RefusedCallsTest::busy, error, call);
    }

    // ---- recipes ----

    private static TailMerger empty() {
        TailMerger x = new TailMerger();
        x.setRegister(2, 12);
        x.save(0);
        x.setJumpCost(3);
        emits(x, x.addBlock(), 2);
        x.run(9);
        x.restore(0);
        return x;
    }

    /**
     * Four blocks with each kind of terminator. Blocks 1 and 2 share a tail that isn't worth a merge, and a
     * parameter tail. A run was made, slot 0 holds something else, and slot 1 nothing.
     */
    private static TailMerger busy() {
        TailMerger x = withBlocks(4);
        emits(x, 0, 1, 2);
        x.save(0);
        x.setJumpCost(2);
        for (int register = 0; register <= 6; register++) {
            x.setRegister(register, 100 + register);
        }
        x.setBranch(0, 2, 1, 2);
        for (int block = 1; block <= 2; block++) {
            constant(x, block, 1, 10 * block);
            emits(x, block, 1);
            x.setReturn(block, 3);
        }
        x.setJump(3, 0);
        x.run(1000);
        return x;
    }

    /**
     * Twelve blocks. Block 0 has ten instructions, blocks 1 and 2 have a tail that is worth a merge, and blocks
     * 3 and 4 a parameter tail. A run was made, and both slots hold something else.
     */
    private static TailMerger full() {
        TailMerger x = withBlocks(5);
        x.setRegister(4, 44);
        fill(x, 0);
        x.save(0);
        emits(x, 1, 1, 2, 3);
        emits(x, 2, 1, 2, 3);
        x.save(1);
        constant(x, 3, 5, -1);
        constant(x, 4, 5, 1);
        x.setRegister(4, 45);
        for (int block = 5; block < 12; block++) {
            x.addBlock();
        }
        x.run(5);
        return x;
    }

    // ---- the calls ----

    private static void building() {
        refused("promise 3", "no block", NO_SUCH_BLOCK, x -> x.addInstruction(4, ADD, 1, 2, 3, 4));
        refused("promise 3", "opcode", OUT_OF_RANGE, x -> x.addInstruction(0, 7, 1, 2, 3, 4));
        refused("promise 3", "d", OUT_OF_RANGE, x -> x.addInstruction(0, ADD, 7, 2, 3, 4));
        refused("promise 3", "a", OUT_OF_RANGE, x -> x.addInstruction(0, CONST, 1, 1000, 0, 4));
        refused("promise 3", "b", OUT_OF_RANGE, x -> x.addInstruction(0, COPY, 1, 2, 3, 4));
        refused("promise 3", "line", OUT_OF_RANGE, x -> x.addInstruction(0, ADD, 1, 2, 3, 31));
        refused("promise 4", "no block", NO_SUCH_BLOCK, x -> x.setJump(4, 0));
        refused("promise 4", "no target", NO_SUCH_BLOCK, x -> x.setJump(0, 4));
        refused("promise 4", "negative target", NO_SUCH_BLOCK, x -> x.setJump(0, -1));
        refused("promise 5", "no block", NO_SUCH_BLOCK, x -> x.setBranch(4, 0, 0, 0));
        refused("promise 5", "no first target", NO_SUCH_BLOCK, x -> x.setBranch(1, 1, 4, 0));
        refused("promise 5", "no second target", NO_SUCH_BLOCK, x -> x.setBranch(1, 1, 0, 4));
        refused("promise 5", "register", OUT_OF_RANGE, x -> x.setBranch(1, 7, 0, 0));
        refused("promise 6", "no block", NO_SUCH_BLOCK, x -> x.setReturn(4, 0));
        refused("promise 6", "register", OUT_OF_RANGE, x -> x.setReturn(0, 7));
        refused("promise 6", "negative register", OUT_OF_RANGE, x -> x.setReturn(3, -1));
    }

    private static void readingInstructions() {
        refused("promise 9", "no block", NO_SUCH_BLOCK, x -> x.opcode(4, 0));
        refused("promise 9", "no instruction", NO_SUCH_INSTRUCTION, x -> x.opcode(0, 2));
        refused("promise 10", "no block", NO_SUCH_BLOCK, x -> x.destination(4, 0));
        refused("promise 10", "no instruction", NO_SUCH_INSTRUCTION, x -> x.destination(0, 2));
        refused("promise 11", "no block", NO_SUCH_BLOCK, x -> x.operandA(4, 0));
        refused("promise 11", "no instruction", NO_SUCH_INSTRUCTION, x -> x.operandA(0, 2));
        refused("promise 12", "no block", NO_SUCH_BLOCK, x -> x.operandB(4, 0));
        refused("promise 12", "no instruction", NO_SUCH_INSTRUCTION, x -> x.operandB(0, 2));
        refused("promise 13", "no block", NO_SUCH_BLOCK, x -> x.lines(4, 0));
        refused("promise 13", "no instruction", NO_SUCH_INSTRUCTION, x -> x.lines(0, 2));
    }

    private static void readingBlocks() {
        refused("promise 8", "no block", NO_SUCH_BLOCK, x -> x.instructionCount(4));
        refused("promise 14", "no block", NO_SUCH_BLOCK, x -> x.terminatorKind(4));
        refused("promise 15", "no block", NO_SUCH_BLOCK, x -> x.terminatorOperand(4, 0));
        refused("promise 15", "no operand", NONE, x -> x.terminatorOperand(3, 1));
    }

    private static void tails() {
        refused("promise 16", "no block", NO_SUCH_BLOCK, x -> x.tailHash(4, 0));
        refused("promise 16", "length", OUT_OF_RANGE, x -> x.tailHash(0, 3));
        refused("promise 17", "no block", NO_SUCH_BLOCK, x -> x.commonTail(0, 4));
        refused("promise 17", "same block", OUT_OF_RANGE, x -> x.commonTail(1, 1));
        refused("promise 17", "other terminators", DIFFERENT, x -> x.commonTail(0, 1));
        refused("promise 18", "no block", NO_SUCH_BLOCK, x -> x.parameterTail(4, 0));
        refused("promise 18", "same block", OUT_OF_RANGE, x -> x.parameterTail(1, 1));
        refused("promise 18", "other terminators", DIFFERENT, x -> x.parameterTail(0, 1));
    }

    private static void tailMerges() {
        refused("promise 19", "cost 6", OUT_OF_RANGE, x -> x.setJumpCost(6));
        refused("promise 19", "cost -1", OUT_OF_RANGE, x -> x.setJumpCost(-1));
        refused("promise 21", "no block", NO_SUCH_BLOCK, x -> x.tailSaving(17));
        refused("promise 21", "one block", OUT_OF_RANGE, x -> x.tailSaving(1));
        refused("promise 21", "other terminators", DIFFERENT, x -> x.tailSaving(3));
        refused("promise 22", "none", NONE, TailMerger::bestTail);
        refused("promise 23", "no block", NO_SUCH_BLOCK, x -> x.mergeTail(22));
        refused("promise 23", "negative set", NO_SUCH_BLOCK, x -> x.mergeTail(MIN + 6));
        refused("promise 23", "one block", OUT_OF_RANGE, x -> x.mergeTail(2));
        refused("promise 23", "no block at all", OUT_OF_RANGE, x -> x.mergeTail(0));
        refused("promise 23", "other terminators", DIFFERENT, x -> x.mergeTail(14));
        refused("promise 23", "saving -2", NOT_PROFITABLE, x -> x.mergeTail(6));
    }

    private static void parameterMerges() {
        refused("promise 24", "no block", NO_SUCH_BLOCK, x -> x.parameterSaving(1, 4));
        refused("promise 24", "same block", OUT_OF_RANGE, x -> x.parameterSaving(2, 2));
        refused("promise 24", "other terminators", DIFFERENT, x -> x.parameterSaving(2, 3));
        refused("promise 25", "no block", NO_SUCH_BLOCK, x -> x.mergeWithParameter(1, 4));
        refused("promise 25", "same block", OUT_OF_RANGE, x -> x.mergeWithParameter(2, 2));
        refused("promise 25", "other terminators", DIFFERENT, x -> x.mergeWithParameter(2, 3));
    }

    private static void runs() {
        refused("promise 27", "register 7", OUT_OF_RANGE, x -> x.setRegister(7, 1));
        refused("promise 27", "register -1", OUT_OF_RANGE, x -> x.setRegister(-1, 1));
        refused("promise 28", "0 steps", OUT_OF_RANGE, x -> x.run(0));
        refused("promise 28", "1001 steps", OUT_OF_RANGE, x -> x.run(1001));
    }

    private static void saving() {
        refused("promise 32", "slot 2", OUT_OF_RANGE, x -> x.save(2));
        refused("promise 32", "slot -1", OUT_OF_RANGE, x -> x.save(-1));
        refused("promise 33", "slot 2", OUT_OF_RANGE, x -> x.restore(2));
        refused("promise 33", "slot -1", OUT_OF_RANGE, x -> x.restore(-1));
        refused("promise 33", "nothing saved", NOT_SAVED, x -> x.restore(1));
    }

    private static void emptyProgram() {
        Recipe empty = RefusedCallsTest::empty;
        refused("promise 3", "no block", empty, NO_SUCH_BLOCK, x -> x.addInstruction(0, EMIT, 0, 0, 0, 0));
        refused("promise 4", "no block", empty, NO_SUCH_BLOCK, x -> x.setJump(0, 0));
        refused("promise 6", "no block", empty, NO_SUCH_BLOCK, x -> x.setReturn(0, 0));
        refused("promise 22", "none", empty, NONE, TailMerger::bestTail);
        refused("promise 23", "no block", empty, NO_SUCH_BLOCK, x -> x.mergeTail(3));
        refused("promise 25", "no block", empty, NO_SUCH_BLOCK, x -> x.mergeWithParameter(0, 1));
        refused("promise 28", "no blocks", empty, NO_SUCH_BLOCK, x -> x.run(5));
        refused("promise 33", "nothing saved", empty, NOT_SAVED, x -> x.restore(1));
    }

    private static void fullProgram() {
        Recipe full = RefusedCallsTest::full;
        refused("promise 2", "block 12", full, FULL, TailMerger::addBlock);
        refused("promise 3", "instruction 10", full, FULL, x -> x.addInstruction(0, EMIT, 0, 0, 0, 30));
        refused("promise 3", "block 12", full, NO_SUCH_BLOCK, x -> x.addInstruction(12, EMIT, 0, 0, 0, 0));
        refused("promise 23", "saving 2", full, FULL, x -> x.mergeTail(6));
        refused("promise 23", "block 12", full, NO_SUCH_BLOCK, x -> x.mergeTail(4096 + 6));
        refused("promise 25", "two numbers", full, FULL, x -> x.mergeWithParameter(3, 4));
    }
}
