/** Promises 16 to 18 and what the description says of equality and tails: a method a boundary sentence. */
public final class TailBoundariesTest extends TestHelp {
    public static void main(String[] args) {
        hashStart();
        hashInOrder();
        hashOfMissingOperands();
        hashWraps();
        hashSignCleared();
        hashEqual();
        hashNoBlock();
        hashLength();
        equalInstructions();
        lineSetsDoNotMatter();
        equalTerminators();
        terminatorsBeforeDoNotMatter();
        commonTailDoesNotExist();
        commonTailOfThreeDoesNotExist();
        commonTailIsGreatest();
        commonTailOfShorter();
        commonTailCanBe0();
        commonTailNoBlock();
        commonTailSame();
        parameterNoBlock();
        parameterSame();
        parameterOnlyReturns();
        parameterAtLeastK();
        parameterExactlyOne();
        parameterBothConst();
        parameterUpToRegister7();
        parameterNotBeyondRegister7();
        parameterOfRegister7();
        parameterNumberIsNoRegister();
        parameterLongest();
        CHECK.finish();
    }

    // ---- promise 16 ----

    private static void hashStart() {
        sentence("promise 16", "The hash starts as h = 17.");
        due("of a new block", withBlocks(1).tailHash(0, 0), 15759439);
    }

    private static void hashInOrder() {
        sentence("promise 16", "For each instruction of the tail, in order, h = 31 * h + x is computed four times, "
                + "with x = its opcode, d, a and b.");
        TailMerger x = withBlocks(3);
        x.addInstruction(2, LESS, 4, 5, 6, 0);
        x.addInstruction(2, CONST, 3, -999, 0, 1);
        x.addInstruction(2, EMIT, 0, 2, 0, 2);
        x.setBranch(2, 6, 1, 2);
        due("length 0", x.tailHash(2, 0), hash(1, 6, 1, 2));
        due("length 1", x.tailHash(2, 1), hash(6, 0, 2, 0, 1, 6, 1, 2));
        due("length 2", x.tailHash(2, 2), hash(0, 3, -999, 0, 6, 0, 2, 0, 1, 6, 1, 2));
        due("length 3", x.tailHash(2, 3), hash(5, 4, 5, 6, 0, 3, -999, 0, 6, 0, 2, 0, 1, 6, 1, 2));
    }

    private static void hashOfMissingOperands() {
        sentence("promise 16", "where an operand that does not exist counts as 0");
        TailMerger x = withBlocks(3);
        x.setBranch(0, 5, 1, 2);
        due("branch", x.tailHash(0, 0), hash(1, 5, 1, 2));
        x.setJump(0, 2);
        due("jump made of a branch", x.tailHash(0, 0), hash(0, 2, 0, 0));
        x.setBranch(0, 5, 1, 2);
        x.setReturn(0, 4);
        due("return made of a branch", x.tailHash(0, 0), hash(2, 4, 0, 0));
        for (int block = 0; block < 2; block++) {
            x.setBranch(block, 5, 1, 2);
            emits(x, block, 1, 2);
        }
        x.mergeTail(3);
        due("jump made by a merge", x.tailHash(0, 0), hash(0, 3, 0, 0));
    }

    private static void hashWraps() {
        sentence("promise 16", "All of this wraps around in 32 bits.");
        for (int number : new int[] {-999, 999}) {
            TailMerger x = withBlocks(1);
            int[] numbers = new int[44];
            for (int index = 0; index < 10; index++) {
                constant(x, 0, 6, number);
                numbers[4 * index + 1] = 6;
                numbers[4 * index + 2] = number;
            }
            numbers[40] = RETURN;
            due("ten CONST of " + number, x.tailHash(0, 10), hash(numbers));
        }
    }

    private static void hashSignCleared() {
        sentence("promise 16", "The result is h with its sign bit cleared.");
        TailMerger x = withBlocks(3);
        constant(x, 0, 0, 999);
        constant(x, 1, 6, 999);
        constant(x, 2, 0, 998);
        due("2168822856 without it", x.tailHash(0, 1), 21339208);
        due("3198877646 without it", x.tailHash(1, 1), 1051393998);
        due("2140193705 has none", x.tailHash(2, 1), 2140193705);
    }

    private static void hashEqual() {
        sentence("promise 16", "a hash of a tail, which is equal for equal tails");
        TailMerger x = withBlocks(2);
        emits(x, 0, 5, 6, 1, 2);
        x.addInstruction(1, EMIT, 0, 1, 0, 29);
        x.addInstruction(1, EMIT, 0, 2, 0, 30);
        x.setReturn(0, 3);
        x.setJump(1, 0);
        x.setReturn(1, 3);
        for (int length = 0; length <= 2; length++) {
            due("length " + length, x.tailHash(0, length), x.tailHash(1, length));
        }
    }

    private static void hashNoBlock() {
        sentence("promise 16", "NO_SUCH_BLOCK if the block does not exist (checked first)");
        TailMerger x = withBlocks(2);
        for (int stranger : strangers(2)) {
            for (int length : new int[] {0, 1, 11, -1, MIN, MAX}) {
                due("block " + stranger + ", length " + length, x.tailHash(stranger, length), NO_SUCH_BLOCK);
            }
        }
        due("without blocks", new TailMerger().tailHash(0, 0), NO_SUCH_BLOCK);
        due("twelve, block 12", withBlocks(12).tailHash(12, 0), NO_SUCH_BLOCK);
    }

    private static void hashLength() {
        sentence("promise 16", "OUT_OF_RANGE if length is negative or greater than the number of instructions");
        TailMerger x = withBlocks(3);
        fill(x, 1);
        emits(x, 2, 1, 2, 3);
        for (int length : new int[] {-1, 11, MIN, MAX}) {
            due("empty block, length " + length, x.tailHash(0, length), OUT_OF_RANGE);
            due("full block, length " + length, x.tailHash(1, length), OUT_OF_RANGE);
        }
        due("empty block, length 0", x.tailHash(0, 0), hash(2, 0, 0, 0));
        due("empty block, length 1", x.tailHash(0, 1), OUT_OF_RANGE);
        due("three instructions, length 3", x.tailHash(2, 3), hash(6, 0, 1, 0, 6, 0, 2, 0, 6, 0, 3, 0, 2, 0, 0, 0));
        due("three instructions, length 4", x.tailHash(2, 4), OUT_OF_RANGE);
        due("full block, length 10", x.tailHash(1, 10) < 0 ? 0 : 1, 1);
        x.setJumpCost(0);
        x.mergeTail(6);
        due("shortened block, its old length", x.tailHash(2, 4), OUT_OF_RANGE);
    }

    // ---- equality and promise 17 ----

    private static void equalInstructions() {
        sentence("EQUALITY", "Two instructions are equal if their opcodes, destinations and both operands are equal");
        int[][] pairs = {{ADD, 1, 2, 3, SUB, 1, 2, 3}, {ADD, 1, 2, 3, ADD, 0, 2, 3}, {ADD, 1, 2, 3, ADD, 1, 0, 3},
                {ADD, 1, 2, 3, ADD, 1, 2, 0}, {ADD, 1, 2, 3, ADD, 1, 3, 2}, {CONST, 1, 2, 0, COPY, 1, 2, 0},
                {CONST, 1, 5, 0, CONST, 1, -5, 0}, {CONST, 0, 3, 0, EMIT, 0, 3, 0}, {COPY, 0, 3, 0, EMIT, 0, 3, 0},
                {EMIT, 0, 3, 0, EMIT, 0, 4, 0}};
        for (int[] pair : pairs) {
            TailMerger x = withBlocks(2);
            x.addInstruction(0, pair[0], pair[1], pair[2], pair[3], 0);
            x.addInstruction(1, pair[4], pair[5], pair[6], pair[7], 0);
            due("opcodes " + pair[0] + " and " + pair[4], x.commonTail(0, 1), 0);
            due("opcodes " + pair[4] + " and " + pair[0], x.commonTail(1, 0), 0);
        }
        for (int opcode = CONST; opcode <= EMIT; opcode++) {
            int d = opcode == EMIT ? 0 : 6;
            int b = opcode >= ADD && opcode <= LESS ? 5 : 0;
            TailMerger x = withBlocks(2);
            x.addInstruction(0, opcode, d, 4, b, 0);
            x.addInstruction(1, opcode, d, 4, b, 0);
            due("opcode " + opcode + " twice", x.commonTail(0, 1), 1);
        }
    }

    private static void lineSetsDoNotMatter() {
        sentence("EQUALITY", "line sets do not matter");
        TailMerger x = withBlocks(2);
        x.addInstruction(0, ADD, 1, 2, 3, 0);
        x.addInstruction(1, ADD, 1, 2, 3, 30);
        due("lines 0 and 30", x.commonTail(0, 1), 1);
    }

    private static void equalTerminators() {
        sentence("EQUALITY", "Two terminators are equal if their kinds are equal and all their operands are equal.");
        TailMerger x = withBlocks(2);
        due("returns of new blocks", x.commonTail(0, 1), 0);
        x.setReturn(0, 6);
        x.setReturn(1, 6);
        due("returns of register 6", x.commonTail(0, 1), 0);
        x.setJump(0, 1);
        x.setJump(1, 1);
        due("jumps to block 1", x.commonTail(0, 1), 0);
        x.setBranch(0, 6, 0, 1);
        x.setBranch(1, 6, 0, 1);
        due("branches", x.commonTail(0, 1), 0);
    }

    private static void terminatorsBeforeDoNotMatter() {
        sentence("EQUALITY", "Two terminators are equal if their kinds are equal and all their operands are equal.");
        TailMerger x = withBlocks(3);
        x.setBranch(0, 6, 1, 2);
        x.setReturn(0, 0);
        x.setJump(1, 2);
        x.setReturn(1, 0);
        due("returns made of a branch and of a jump", x.commonTail(0, 1), 0);
        due("returns made of a branch and with the block", x.commonTail(0, 2), 0);
        x.setBranch(0, 6, 1, 2);
        x.setJump(0, 2);
        x.setJump(1, 2);
        due("jumps made of a branch and of a return", x.commonTail(0, 1), 0);
        x.setBranch(1, 6, 2, 1);
        x.setJump(1, 2);
        due("jumps made of unlike branches", x.commonTail(0, 1), 0);
    }

    private static void commonTailDoesNotExist() {
        sentence("promise 17", "DIFFERENT if it does not exist");
        TailMerger x = withBlocks(3);
        emits(x, 0, 1, 2);
        emits(x, 1, 1, 2);
        x.setReturn(0, 1);
        due("other registers returned", x.commonTail(0, 1), DIFFERENT);
        x.setJump(0, 0);
        x.setReturn(1, 0);
        due("jump to 0 and return of 0", x.commonTail(0, 1), DIFFERENT);
        x.setBranch(0, 0, 0, 0);
        due("branch of zeros and return of 0", x.commonTail(0, 1), DIFFERENT);
        x.setJump(1, 0);
        due("branch of zeros and jump to 0", x.commonTail(0, 1), DIFFERENT);
        x.setJump(0, 1);
        due("other targets", x.commonTail(0, 1), DIFFERENT);
        x.setBranch(0, 0, 1, 2);
        int[][] others = {{1, 1, 2}, {0, 2, 2}, {0, 1, 1}, {0, 2, 1}};
        for (int[] other : others) {
            x.setBranch(1, other[0], other[1], other[2]);
            due("other branches", x.commonTail(0, 1), DIFFERENT);
            due("other branches, the other way round", x.commonTail(1, 0), DIFFERENT);
        }
    }

    private static void commonTailOfThreeDoesNotExist() {
        sentence("TAILS", "does not exist if their terminators are not all equal");
        for (int odd = 0; odd < 3; odd++) {
            TailMerger x = withBlocks(3);
            for (int block = 0; block < 3; block++) {
                emits(x, block, 1, 2, 3);
            }
            x.setReturn(odd, 1);
            due("block " + odd + " differs", x.tailSaving(7), DIFFERENT);
            due("the two others", x.tailSaving(7 - (1 << odd)), 2);
        }
    }

    private static void commonTailIsGreatest() {
        sentence("TAILS", "the greatest k for which every block has at least k instructions and the last k "
                + "instructions are equal in all blocks");
        for (int equal = 0; equal <= 10; equal++) {
            TailMerger x = withBlocks(2);
            for (int index = 0; index < 10; index++) {
                emits(x, 0, index % 3);
                emits(x, 1, index < 10 - equal ? 3 + index % 3 : index % 3);
            }
            due("ten instructions, " + equal + " equal", x.commonTail(0, 1), equal);
        }
        TailMerger y = withBlocks(2);
        emits(y, 0, 1, 2, 3, 4, 5);
        emits(y, 1, 1, 2, 6, 4, 5);
        due("equal, other, equal", y.commonTail(0, 1), 2);
        TailMerger z = withBlocks(2);
        emits(z, 0, 1, 2, 3);
        emits(z, 1, 1, 2, 4);
        due("equal beginnings", z.commonTail(0, 1), 0);
    }

    private static void commonTailOfShorter() {
        sentence("TAILS", "every block has at least k instructions");
        TailMerger x = withBlocks(3);
        emits(x, 0, 1, 2, 3);
        emits(x, 1, 3);
        emits(x, 2, 2, 3);
        due("three and one", x.commonTail(0, 1), 1);
        due("one and three", x.commonTail(1, 0), 1);
        due("three and two", x.commonTail(0, 2), 2);
        due("all three", x.tailSaving(7), 1);
        TailMerger y = withBlocks(2);
        fill(y, 0);
        due("ten and none", y.commonTail(0, 1), 0);
        due("none and ten", y.commonTail(1, 0), 0);
        emits(y, 1, 0, 0, 0, 0, 0, 0, 0, 0, 0);
        due("ten and nine", y.commonTail(0, 1), 9);
    }

    private static void commonTailCanBe0() {
        sentence("TAILS", "it can be 0");
        TailMerger x = withBlocks(2);
        due("two empty blocks", x.commonTail(0, 1), 0);
        emits(x, 0, 1);
        due("an empty block", x.commonTail(0, 1), 0);
        emits(x, 1, 2);
        due("other instructions", x.commonTail(0, 1), 0);
    }

    private static void commonTailNoBlock() {
        sentence("promise 17", "NO_SUCH_BLOCK if either block does not exist (checked first)");
        dueNoBlockOfPair(TailMerger::commonTail);
    }

    private static void commonTailSame() {
        sentence("promise 17", "OUT_OF_RANGE if they are the same block (checked second)");
        dueSameOfPair(TailMerger::commonTail);
    }

    // ---- promise 18 ----

    /** commonTail or parameterTail. */
    private interface OfPair {
        int ask(TailMerger x, int first, int second);
    }

    private static void dueNoBlockOfPair(OfPair method) {
        TailMerger x = withBlocks(2);
        x.setJump(0, 0);
        for (int stranger : strangers(2)) {
            due("first " + stranger, method.ask(x, stranger, 0), NO_SUCH_BLOCK);
            due("second " + stranger, method.ask(x, 0, stranger), NO_SUCH_BLOCK);
            due("the same twice " + stranger, method.ask(x, stranger, stranger), NO_SUCH_BLOCK);
        }
        due("without blocks", method.ask(new TailMerger(), 0, 0), NO_SUCH_BLOCK);
        due("twelve, second 12", method.ask(withBlocks(12), 11, 12), NO_SUCH_BLOCK);
    }

    private static void dueSameOfPair(OfPair method) {
        TailMerger x = withBlocks(12);
        fill(x, 0);
        x.setJump(1, 0);
        x.setBranch(2, 0, 0, 0);
        for (int block = 0; block < 12; block++) {
            due("block " + block, method.ask(x, block, block), OUT_OF_RANGE);
        }
    }

    private static void parameterNoBlock() {
        sentence("promise 18", "NO_SUCH_BLOCK if either block does not exist (checked first)");
        dueNoBlockOfPair(TailMerger::parameterTail);
    }

    private static void parameterSame() {
        sentence("promise 18", "OUT_OF_RANGE if they are the same block (checked second)");
        dueSameOfPair(TailMerger::parameterTail);
    }

    /** Two blocks that end with CONST of other numbers and an EMIT. */
    private static TailMerger mergeable() {
        TailMerger x = withBlocks(3);
        for (int block = 0; block < 2; block++) {
            constant(x, block, 1, block);
            emits(x, block, 1);
        }
        return x;
    }

    private static void parameterOnlyReturns() {
        sentence("PARAMETER MERGE", "If the terminators are not equal RETURNs, or if there is no such k, the "
                + "parameter tail length does not exist.");
        TailMerger x = mergeable();
        due("equal returns", x.parameterTail(0, 1), 2);
        x.setReturn(0, 6);
        due("other registers returned", x.parameterTail(0, 1), DIFFERENT);
        x.setReturn(1, 6);
        due("equal returns again", x.parameterTail(0, 1), 2);
        x.setJump(0, 2);
        due("jump and return", x.parameterTail(0, 1), DIFFERENT);
        due("return and jump", x.parameterTail(1, 0), DIFFERENT);
        x.setJump(1, 2);
        due("equal jumps", x.parameterTail(0, 1), DIFFERENT);
        x.setBranch(0, 0, 2, 2);
        x.setBranch(1, 0, 2, 2);
        due("equal branches", x.parameterTail(0, 1), DIFFERENT);
    }

    private static void parameterAtLeastK() {
        sentence("PARAMETER MERGE", "Both blocks have at least k instructions.");
        TailMerger x = withBlocks(3);
        emits(x, 0, 2, 3);
        for (int block = 0; block < 2; block++) {
            constant(x, block, 1, block);
            emits(x, block, 1);
        }
        due("four and two", x.parameterTail(0, 1), 2);
        due("two and four", x.parameterTail(1, 0), 2);
        emits(x, 2, 1);
        due("the CONST has no partner", x.parameterTail(0, 2), DIFFERENT);
        TailMerger y = withBlocks(2);
        due("two empty blocks", y.parameterTail(0, 1), DIFFERENT);
        constant(y, 0, 1, 1);
        due("an empty block", y.parameterTail(0, 1), DIFFERENT);
        due("an empty block first", y.parameterTail(1, 0), DIFFERENT);
        constant(y, 1, 1, 2);
        due("one instruction each", y.parameterTail(0, 1), 1);
    }

    private static void parameterExactlyOne() {
        sentence("PARAMETER MERGE", "there is exactly one position at which the two blocks have instructions that "
                + "are not equal");
        TailMerger x = withBlocks(2);
        fill(x, 0);
        fill(x, 1);
        due("no position", x.parameterTail(0, 1), DIFFERENT);
        TailMerger y = withBlocks(2);
        for (int block = 0; block < 2; block++) {
            constant(y, block, 1, block);
            emits(y, block, 2, 3);
            constant(y, block, 1, 5 + block);
            emits(y, block, 4);
        }
        due("up to the second CONST", y.parameterTail(0, 1), 4);
        TailMerger z = withBlocks(2);
        for (int block = 0; block < 2; block++) {
            emits(z, block, block);
            constant(z, block, 1, block);
        }
        due("up to an EMIT that differs", z.parameterTail(0, 1), 1);
    }

    private static void parameterBothConst() {
        sentence("PARAMETER MERGE", "At that position both are CONST instructions with the same destination.");
        int[][] pairs = {{CONST, 1, 2, 0, COPY, 1, 2, 0}, {CONST, 1, 2, 0, CONST, 2, 2, 0},
                {CONST, 1, 2, 0, CONST, 2, 3, 0}, {CONST, 0, 2, 0, EMIT, 0, 2, 0}, {COPY, 1, 2, 0, COPY, 1, 3, 0},
                {ADD, 1, 2, 3, ADD, 1, 2, 4}, {ADD, 1, 2, 0, CONST, 1, 2, 0}, {EMIT, 0, 1, 0, EMIT, 0, 2, 0}};
        for (int[] pair : pairs) {
            TailMerger x = withBlocks(2);
            x.addInstruction(0, pair[0], pair[1], pair[2], pair[3], 0);
            x.addInstruction(1, pair[4], pair[5], pair[6], pair[7], 0);
            String what = "opcodes " + pair[0] + " and " + pair[4];
            due(what, x.parameterTail(0, 1), DIFFERENT);
            due(what + ", the other way round", x.parameterTail(1, 0), DIFFERENT);
            emits(x, 0, 1);
            emits(x, 1, 1);
            due(what + " before equal ones", x.parameterTail(0, 1), DIFFERENT);
        }
    }

    /**
     * Blocks 0 and 2 are CONST 7, 10; blocks 1 and 3 are CONST 7 with 20 and with 30; blocks 4 and 5 are
     * COPY 1, 7. All of them return register 0.
     */
    private static TailMerger withRegister7() {
        TailMerger x = withBlocks(4);
        int[] numbers = {10, 20, 10, 30};
        for (int block = 0; block < 4; block++) {
            constant(x, block, 1, numbers[block]);
        }
        x.mergeWithParameter(0, 1);
        x.mergeWithParameter(2, 3);
        for (int block = 0; block < 4; block++) {
            x.setReturn(block, 0);
        }
        return x;
    }

    private static void parameterUpToRegister7() {
        sentence("PARAMETER MERGE", "No instruction among the last k instructions of either block reads or writes "
                + "register 7.");
        TailMerger x = withRegister7();
        int[][] pairs = {{0, 2}, {4, 5}};
        for (int[] pair : pairs) {
            due("equal blocks", x.commonTail(pair[0], pair[1]), 1);
            constant(x, pair[0], 2, 1);
            constant(x, pair[1], 2, 2);
            emits(x, pair[0], 3);
            emits(x, pair[1], 3);
            due("up to equal ones with register 7", x.parameterTail(pair[0], pair[1]), 2);
        }
    }

    /** The CONST that differ stand before equal instructions with register 7, so that no tail reaches them. */
    private static void parameterNotBeyondRegister7() {
        sentence("PARAMETER MERGE", "No instruction among the last k instructions of either block reads or writes "
                + "register 7.");
        int[] numbers = {10, 20, 10, 30};
        TailMerger writes = withBlocks(4);
        TailMerger reads = withBlocks(4);
        for (int block = 0; block < 4; block++) {
            constant(writes, block, 2, block);
            constant(writes, block, 1, numbers[block]);
            constant(reads, block, 2, block / 2);
            constant(reads, block, 1, numbers[block]);
        }
        for (int block = 0; block < 4; block += 2) {
            writes.mergeWithParameter(block, block + 1);
            reads.mergeWithParameter(block, block + 1);
            writes.setReturn(block, 0);
        }
        dueInstruction(writes, 2, 1, CONST, 7, 10, 0, 1 << 2);
        due("CONST 2, then equal CONST 7", writes.parameterTail(0, 2), DIFFERENT);
        dueInstruction(reads, 5, 1, COPY, 1, 7, 0, 3 << 2);
        due("CONST 2, then equal COPY from 7", reads.parameterTail(4, 5), DIFFERENT);
    }

    private static void parameterOfRegister7() {
        sentence("PARAMETER MERGE", "No instruction among the last k instructions of either block reads or writes "
                + "register 7.");
        TailMerger x = withRegister7();
        due("CONST 7 with other numbers", x.parameterTail(0, 1), DIFFERENT);
        due("CONST 7 and COPY from 7", x.parameterTail(0, 4), DIFFERENT);
        for (int block = 0; block < 4; block++) {
            constant(x, block, 2, block);
        }
        due("up to CONST 7 with other numbers", x.parameterTail(0, 1), 1);
        emits(x, 0, 5);
        emits(x, 1, 5);
        due("up to CONST 7 with other numbers", x.parameterTail(0, 1), 2);
    }

    private static void parameterNumberIsNoRegister() {
        sentence("PARAMETER MERGE", "CONST reads no register, and its number is not a register.");
        for (int other : new int[] {6, 8}) {
            TailMerger x = withBlocks(2);
            constant(x, 0, 0, 7);
            constant(x, 1, 0, 7);
            constant(x, 0, 0, 7);
            constant(x, 1, 0, other);
            constant(x, 0, 1, 7);
            constant(x, 1, 1, 7);
            due("7 and " + other, x.parameterTail(0, 1), 3);
            due(other + " and 7", x.parameterTail(1, 0), 3);
        }
    }

    private static void parameterLongest() {
        sentence("PARAMETER MERGE", "The parameter tail length of the two blocks is the greatest k");
        for (int place = 0; place < 10; place++) {
            TailMerger x = withBlocks(2);
            for (int index = 0; index < 10; index++) {
                for (int block = 0; block < 2; block++) {
                    constant(x, block, 6, index == place ? 2 * 999 * block - 999 : index);
                }
            }
            due("ten instructions, other at " + place, x.parameterTail(0, 1), 10);
            due("the other way round", x.parameterTail(1, 0), 10);
        }
        for (int head = 0; head < 9; head++) {
            TailMerger x = withBlocks(2);
            for (int index = 0; index < 10; index++) {
                for (int block = 0; block < 2; block++) {
                    constant(x, block, index <= head ? block : 2, index == 9 ? block : index);
                }
            }
            due("unlike up to " + head, x.parameterTail(0, 1), 9 - head);
        }
    }
}
