/** Promises 19 to 26 and what the description says of size and merges: a method a boundary sentence. */
public final class MergeBoundariesTest extends TestHelp {
    public static void main(String[] args) {
        jumpCostPrevious();
        jumpCostRange();
        terminatorCosts();
        codeSizes();
        setBits();
        savingFormula();
        savingOfCommonTerminator();
        savingNegative();
        savingNoBlock();
        savingNoBlockFirst();
        savingFewerThanTwo();
        savingDifferent();
        bestNone();
        bestGreatest();
        bestSmallestNumber();
        bestWhenFull();
        mergeMakesBlock();
        mergeUnitesLines();
        mergeRemoves();
        mergeOfEmptyAndWholeTails();
        mergeOfLoops();
        mergeNoBlockFirst();
        mergeFewerThanTwo();
        mergeDifferent();
        mergeNotProfitable();
        mergeNotProfitableBeforeFull();
        mergeFull();
        parameterSavings();
        parameterSavingNegative();
        parameterSavingErrors();
        parameterMergeMakesBlock();
        parameterMergeNumbers();
        parameterMergeLines();
        parameterMergeUnprofitable();
        parameterMergeErrors();
        parameterMergeFull();
        mergeAllNothing();
        mergeAllUntilNone();
        mergeAllUntilFull();
        mergeAllAnew();
        CHECK.finish();
    }

    /** As many blocks, all with the same EMITs and with returns of register 0. */
    private static TailMerger alike(int blocks, int... registers) {
        TailMerger x = withBlocks(blocks);
        for (int block = 0; block < blocks; block++) {
            emits(x, block, registers);
        }
        return x;
    }

    private static int[] zeros(int length) {
        return new int[length];
    }

    // ---- promises 19 and 20 ----

    private static void jumpCostPrevious() {
        sentence("promise 19", "Returns the previous jump cost");
        TailMerger x = new TailMerger();
        due("to 0", x.setJumpCost(0), 1);
        due("to 5", x.setJumpCost(5), 0);
        due("to 5 again", x.setJumpCost(5), 5);
        due("to 2", x.setJumpCost(2), 5);
        due("last", x.setJumpCost(2), 2);
    }

    private static void jumpCostRange() {
        sentence("promise 19", "OUT_OF_RANGE if cost is out of range");
        TailMerger x = new TailMerger();
        x.setJumpCost(4);
        for (int cost : new int[] {-1, 6, 7, MIN, MAX}) {
            due("cost " + cost, x.setJumpCost(cost), OUT_OF_RANGE);
        }
        int previous = 4;
        for (int cost = 0; cost <= 5; cost++) {
            due("cost " + cost, x.setJumpCost(cost), previous);
            previous = cost;
        }
    }

    private static void terminatorCosts() {
        sentence("SIZE", "The cost of a RETURN is 1, the cost of a BRANCH is 2, and the cost of a JUMP is the jump "
                + "cost, 0 to 5, initially 1.");
        TailMerger x = withBlocks(1);
        due("return", x.codeSize(), 1);
        x.setBranch(0, 0, 0, 0);
        due("branch", x.codeSize(), 2);
        x.setJump(0, 0);
        due("jump", x.codeSize(), 1);
        for (int cost = 0; cost <= 5; cost++) {
            x.setJumpCost(cost);
            x.setJump(0, 0);
            due("jump of cost " + cost, x.codeSize(), cost);
            x.setBranch(0, 0, 0, 0);
            due("branch with jump cost " + cost, x.codeSize(), 2);
            x.setReturn(0, 0);
            due("return with jump cost " + cost, x.codeSize(), 1);
        }
    }

    private static void codeSizes() {
        sentence("promise 20", "Returns the code size.");
        due("no blocks", new TailMerger().codeSize(), 0);
        due("one empty block", withBlocks(1).codeSize(), 1);
        sentence("SIZE", "The code size is the number of all instructions plus the costs of all terminators.");
        TailMerger x = alike(12, zeros(10));
        due("twelve full blocks", x.codeSize(), 132);
        for (int block = 0; block < 12; block++) {
            x.setJump(block, block);
        }
        x.setJumpCost(5);
        due("with dear jumps", x.codeSize(), 180);
        x.setJumpCost(0);
        due("with free jumps", x.codeSize(), 120);
    }

    // ---- promise 21 ----

    private static void setBits() {
        sentence("Description", "A set of blocks is an int in which bit b is set if block b is in the set.");
        for (int block = 1; block < 12; block++) {
            TailMerger x = withBlocks(12);
            emits(x, 0, 1, 2, 3);
            emits(x, block, 2, 3);
            due("saving of 0 and " + block, x.tailSaving(1 | 1 << block), 1);
            due("best is 0 and " + block, x.bestTail(), 1 | 1 << block);
        }
        for (int block = 1; block < 11; block++) {
            TailMerger x = alike(11, 1, 2);
            x.mergeTail(1 | 1 << block);
            for (int any = 0; any < 11; any++) {
                due("merge of 0 and " + block + ", kind of " + any, x.terminatorKind(any),
                        any == 0 || any == block ? JUMP : RETURN);
            }
        }
    }

    private static void savingFormula() {
        sentence("TAIL MERGE", "The saving of the merge is (m - 1) * (k + t) - m * j");
        for (int m = 2; m <= 12; m++) {
            for (int k = 0; k <= 10; k++) {
                TailMerger x = alike(m, zeros(k));
                for (int kind = JUMP; kind <= RETURN; kind++) {
                    endAll(x, m, kind);
                    for (int j = 0; j <= 5; j++) {
                        int t = kind == JUMP ? j : kind == BRANCH ? 2 : 1;
                        x.setJumpCost(j);
                        due("m " + m + ", k " + k + ", t " + t + ", j " + j, x.tailSaving((1 << m) - 1),
                                (m - 1) * (k + t) - m * j);
                    }
                }
            }
        }
    }

    /** Blocks 0 and 3 are not in the set, and end unlike it. */
    private static void savingOfCommonTerminator() {
        sentence("TAIL MERGE", "where t is the cost of the common terminator and j is the jump cost");
        for (int kind = JUMP; kind <= RETURN; kind++) {
            TailMerger x = alike(4, 1, 2, 3);
            endAll(x, 4, kind);
            x.setReturn(0, 0);
            x.setReturn(3, 0);
            x.setJumpCost(4);
            due("kind " + kind, x.tailSaving(6), 3 + (kind == JUMP ? 4 : kind == BRANCH ? 2 : 1) - 8);
            x.setBranch(0, 0, 0, 0);
            x.setBranch(3, 0, 0, 0);
            due("kind " + kind, x.tailSaving(6), 3 + (kind == JUMP ? 4 : kind == BRANCH ? 2 : 1) - 8);
        }
    }

    private static void endAll(TailMerger x, int blocks, int kind) {
        for (int block = 0; block < blocks; block++) {
            if (kind == JUMP) {
                x.setJump(block, 1);
            } else if (kind == BRANCH) {
                x.setBranch(block, 6, 1, 0);
            } else {
                x.setReturn(block, 6);
            }
        }
    }

    private static void savingNegative() {
        sentence("promise 21", "It may be negative.");
        TailMerger x = withBlocks(12);
        x.setJumpCost(5);
        due("twelve empty blocks", x.tailSaving(4095), -49);
        due("two empty blocks", x.tailSaving(3), -9);
        x.setJumpCost(1);
        due("two empty blocks, jump cost 1", x.tailSaving(3), -1);
    }

    /** Sets with a block that doesn't exist where there are three, and negative ones. */
    private static final int[] WRONG_SETS_OF_THREE = {8, 9, 11, 15, 16, 4096, 1 << 30, MAX, -1, -2, -8, MIN, MIN + 3,
            MIN + 7};

    private static void savingNoBlock() {
        sentence("promise 21", "NO_SUCH_BLOCK if the set contains a block that does not exist or is negative");
        TailMerger x = withBlocks(3);
        due("all three", x.tailSaving(7), -1);
        for (int set : WRONG_SETS_OF_THREE) {
            due("set " + set, x.tailSaving(set), NO_SUCH_BLOCK);
        }
        due("twelve, all", withBlocks(12).tailSaving(4095), -1);
        for (int set : new int[] {4096, 4097, 4099, 8191, 1 << 30, MAX, -1, MIN, MIN + 4095}) {
            due("twelve, set " + set, withBlocks(12).tailSaving(set), NO_SUCH_BLOCK);
        }
        due("none, block 0", new TailMerger().tailSaving(1), NO_SUCH_BLOCK);
        due("none, blocks 0 and 1", new TailMerger().tailSaving(3), NO_SUCH_BLOCK);
        due("none, negative", new TailMerger().tailSaving(-1), NO_SUCH_BLOCK);
    }

    private static void savingNoBlockFirst() {
        sentence("promise 21", "NO_SUCH_BLOCK if the set contains a block that does not exist or is negative (checked "
                + "first)");
        TailMerger x = withBlocks(3);
        x.setReturn(1, 1);
        due("one block, which does not exist", x.tailSaving(8), NO_SUCH_BLOCK);
        due("no block but a sign", x.tailSaving(MIN), NO_SUCH_BLOCK);
        due("a sign and one block", x.tailSaving(MIN + 1), NO_SUCH_BLOCK);
        due("unlike terminators and one more", x.tailSaving(11), NO_SUCH_BLOCK);
        due("unlike terminators and a sign", x.tailSaving(MIN + 3), NO_SUCH_BLOCK);
    }

    private static void savingFewerThanTwo() {
        sentence("promise 21", "OUT_OF_RANGE if it has fewer than two blocks (checked second)");
        TailMerger x = withBlocks(12);
        due("the empty set", x.tailSaving(0), OUT_OF_RANGE);
        for (int block = 0; block < 12; block++) {
            due("block " + block, x.tailSaving(1 << block), OUT_OF_RANGE);
        }
        due("the empty set without blocks", new TailMerger().tailSaving(0), OUT_OF_RANGE);
        due("two blocks", x.tailSaving(1 << 10 | 1 << 11), -1);
    }

    private static void savingDifferent() {
        sentence("promise 21", "DIFFERENT if the common tail length does not exist");
        TailMerger x = alike(12, 1, 2);
        x.setJump(11, 0);
        due("all twelve", x.tailSaving(4095), DIFFERENT);
        due("the first and the last", x.tailSaving(1 | 1 << 11), DIFFERENT);
        due("all but the last", x.tailSaving(2047), 10 * 3 - 11);
    }

    // ---- promise 22 ----

    private static void bestNone() {
        sentence("promise 22", "NONE if no tail merge is profitable");
        due("no blocks", new TailMerger().bestTail(), NONE);
        due("one block", alike(1, zeros(10)).bestTail(), NONE);
        due("two empty blocks, saving -1", withBlocks(2).bestTail(), NONE);
        due("two blocks, saving 0", alike(2, 1).bestTail(), NONE);
        due("two blocks, saving 1", alike(2, 1, 2).bestTail(), 3);
        due("twelve empty blocks, saving -1", withBlocks(12).bestTail(), NONE);
        TailMerger x = alike(2, 1, 2);
        x.setReturn(0, 1);
        due("unlike terminators", x.bestTail(), NONE);
        TailMerger free = withBlocks(2);
        free.setJumpCost(0);
        due("free jumps, empty returns, saving 1", free.bestTail(), 3);
        endAll(free, 2, JUMP);
        due("free jumps, empty jumps, saving 0", free.bestTail(), NONE);
        TailMerger dear = alike(2, zeros(9));
        dear.setJumpCost(5);
        due("dear jumps, saving 0", dear.bestTail(), NONE);
        emits(dear, 0, 0);
        emits(dear, 1, 0);
        due("dear jumps, saving 1", dear.bestTail(), 3);
    }

    private static void bestGreatest() {
        sentence("promise 22", "Returns the set of blocks whose tail merge has the greatest saving");
        due("all twelve", alike(12, 1).bestTail(), 4095);
        TailMerger x = withBlocks(5);
        emits(x, 0, 1, 2, 3, 4, 5);
        emits(x, 4, 1, 2, 3, 4, 5);
        emits(x, 1, 4, 5);
        emits(x, 2, 4, 5);
        due("longer tail of two: 4", x.tailSaving(17), 4);
        due("shorter tail of four: 5", x.tailSaving(23), 5);
        due("more blocks", x.bestTail(), 23);
        x.setJumpCost(2);
        due("longer tail of two: 2", x.tailSaving(17), 2);
        due("shorter tail of four: 1", x.tailSaving(23), 1);
        due("longer tail", x.bestTail(), 17);
    }

    private static void bestSmallestNumber() {
        sentence("promise 22", "the smallest set as a number if several have it");
        TailMerger nested = alike(2, 5, 1);
        nested.addBlock();
        emits(nested, 2, 1);
        due("saving of two", nested.tailSaving(3), 1);
        due("saving of three", nested.tailSaving(7), 1);
        due("a set within another", nested.bestTail(), 3);

        TailMerger outer = withBlocks(5);
        emits(outer, 0, 1, 2, 3, 4);
        emits(outer, 4, 1, 2, 3, 4);
        for (int block = 1; block <= 3; block++) {
            emits(outer, block, 5, 6);
        }
        due("saving of 0 and 4", outer.tailSaving(17), 3);
        due("saving of 1 to 3", outer.tailSaving(14), 3);
        due("three blocks with a smaller number", outer.bestTail(), 14);

        TailMerger pairs = withBlocks(6);
        for (int block = 0; block < 6; block++) {
            emits(pairs, block, block % 3, block % 3);
        }
        due("three pairs", pairs.bestTail(), 9);
        TailMerger inward = withBlocks(6);
        for (int block = 0; block < 6; block++) {
            int pair = Math.min(block, 5 - block);
            emits(inward, block, pair, pair);
        }
        due("three pairs, one in another", inward.bestTail(), 12);
    }

    private static void bestWhenFull() {
        sentence("promise 22", "NONE if no tail merge is profitable");
        TailMerger x = withBlocks(12);
        emits(x, 10, 1, 2);
        emits(x, 11, 1, 2);
        due("profitable though there is no room", x.bestTail(), 3 << 10);
        due("no room", x.mergeTail(3 << 10), FULL);
    }

    // ---- promise 23 ----

    private static void mergeMakesBlock() {
        sentence("TAIL MERGE", "The new block has the k instructions and the terminator of the tail");
        for (int kind = JUMP; kind <= RETURN; kind++) {
            TailMerger x = withBlocks(3);
            for (int block = 0; block < 3; block++) {
                constant(x, block, 6, 900 + block);
                x.addInstruction(block, SUB, 4, 5, 6, 1);
                x.addInstruction(block, CONST, 3, -999, 0, 2);
            }
            endAll(x, 3, kind);
            due("its index", x.mergeTail(5), 3);
            due("its length", x.instructionCount(3), 2);
            dueInstruction(x, 3, 0, SUB, 4, 5, 6, 2);
            dueInstruction(x, 3, 1, CONST, 3, -999, 0, 4);
            due("its kind", x.terminatorKind(3), kind);
            due("as that of block 1", x.commonTail(1, 3), 2);
        }
    }

    private static void mergeUnitesLines() {
        sentence("TAIL MERGE", "the line set of each of its instructions is the union of the line sets of the merged "
                + "instructions");
        TailMerger x = withBlocks(11);
        for (int block = 0; block < 11; block++) {
            x.addInstruction(block, EMIT, 0, 1, 0, 20 + block);
            x.addInstruction(block, EMIT, 0, 2, 0, block);
            x.addInstruction(block, EMIT, 0, 3, 0, 30);
        }
        due("eleven blocks", x.mergeTail(2047), 11);
        due("lines 20 to 30", x.lines(11, 0), 2047 << 20);
        due("lines 0 to 10", x.lines(11, 1), 2047);
        due("the same line", x.lines(11, 2), 1 << 30);
        TailMerger y = alike(3, 1, 2, 3);
        y.mergeTail(3);
        due("with a block made before", y.mergeTail(12), 4);
        due("union of unions", y.lines(4, 0), 7);
    }

    private static void mergeRemoves() {
        sentence("TAIL MERGE", "The last k instructions of each block in the set are removed, and its terminator becomes "
                + "a JUMP to the new block.");
        TailMerger x = withBlocks(4);
        for (int block = 0; block < 4; block++) {
            constant(x, block, 1, block);
            emits(x, block, 1, 2, 3);
            x.setBranch(block, 1, 2, 3);
        }
        int size = x.codeSize();
        int saving = x.tailSaving(11);
        x.mergeTail(11);
        due("size", x.codeSize(), size - saving);
        for (int block : new int[] {0, 1, 3}) {
            due("left in " + block, x.instructionCount(block), 1);
            dueInstruction(x, block, 0, CONST, 1, block, 0, 1 << block);
            dueJump(x, block, 4);
            due("no other operand", x.terminatorOperand(block, 1), NONE);
        }
        due("the block that is not in the set", x.instructionCount(2), 4);
        dueBranch(x, 2, 1, 2, 3);
    }

    private static void mergeOfEmptyAndWholeTails() {
        sentence("promise 23", "Merges the common tail of a set of blocks.");
        TailMerger empty = withBlocks(2);
        emits(empty, 0, 1);
        empty.setJumpCost(0);
        due("length 0", empty.mergeTail(3), 2);
        due("nothing moved", empty.instructionCount(2), 0);
        due("nothing removed", empty.instructionCount(0), 1);
        dueReturn(empty, 2, 0);
        dueJump(empty, 0, 2);
        dueJump(empty, 1, 2);
        TailMerger whole = alike(2, zeros(10));
        due("length 10", whole.mergeTail(3), 2);
        due("all moved", whole.instructionCount(2), 10);
        due("all removed", whole.instructionCount(0), 0);
        due("all removed", whole.instructionCount(1), 0);
        due("a run of it", whole.run(12), 12);
    }

    /** Blocks that jump to one of themselves keep their target. */
    private static void mergeOfLoops() {
        sentence("TAIL MERGE", "The new block has the k instructions and the terminator of the tail");
        TailMerger x = alike(2, 1, 2, 3);
        x.setJump(0, 0);
        x.setJump(1, 0);
        due("merged", x.mergeTail(3), 2);
        dueJump(x, 0, 2);
        dueJump(x, 1, 2);
        dueJump(x, 2, 0);
    }

    private static void mergeNoBlockFirst() {
        sentence("promise 23", "NO_SUCH_BLOCK, OUT_OF_RANGE and DIFFERENT as in tailSaving, in this order");
        TailMerger x = alike(3, 1, 2, 3);
        for (int set : WRONG_SETS_OF_THREE) {
            due("set " + set, x.mergeTail(set), NO_SUCH_BLOCK);
        }
        x.setReturn(1, 1);
        due("unlike terminators and one more", x.mergeTail(15), NO_SUCH_BLOCK);
        due("unlike terminators and a sign", x.mergeTail(MIN + 7), NO_SUCH_BLOCK);
        TailMerger full = alike(12, 1, 2, 3);
        due("in a full program", full.mergeTail(4096 + 3), NO_SUCH_BLOCK);
        due("negative in a full program", full.mergeTail(-1), NO_SUCH_BLOCK);
        due("without blocks", new TailMerger().mergeTail(3), NO_SUCH_BLOCK);
        due("the result of bestTail without a merge", withBlocks(2).mergeTail(NONE), NO_SUCH_BLOCK);
    }

    private static void mergeFewerThanTwo() {
        sentence("promise 23", "NO_SUCH_BLOCK, OUT_OF_RANGE and DIFFERENT as in tailSaving, in this order");
        TailMerger x = alike(12, 1, 2, 3);
        due("the empty set", x.mergeTail(0), OUT_OF_RANGE);
        due("block 0", x.mergeTail(1), OUT_OF_RANGE);
        due("block 11", x.mergeTail(1 << 11), OUT_OF_RANGE);
        due("the empty set without blocks", new TailMerger().mergeTail(0), OUT_OF_RANGE);
        due("block 1, with room", alike(2, 1, 2, 3).mergeTail(2), OUT_OF_RANGE);
    }

    private static void mergeDifferent() {
        sentence("promise 23", "NO_SUCH_BLOCK, OUT_OF_RANGE and DIFFERENT as in tailSaving, in this order");
        TailMerger x = alike(3, 1, 2, 3);
        x.setReturn(2, 1);
        due("unlike terminators", x.mergeTail(7), DIFFERENT);
        due("unlike terminators of two", x.mergeTail(6), DIFFERENT);
        TailMerger full = withBlocks(12);
        full.setReturn(11, 1);
        due("before NOT_PROFITABLE and FULL", full.mergeTail(4095), DIFFERENT);
    }

    private static void mergeNotProfitable() {
        sentence("promise 23", "NOT_PROFITABLE if the merge is not profitable (checked after those)");
        int[] returnLengths = {0, 2, 4, 6, 8, 10};
        for (int j = 0; j <= 5; j++) {
            // With two blocks that return, a saving of 1 takes a tail of length 2 * j.
            int k = returnLengths[j];
            TailMerger enough = alike(2, zeros(k));
            enough.setJumpCost(j);
            due("saving 1, jump cost " + j, enough.tailSaving(3), 1);
            due("merged, jump cost " + j, enough.mergeTail(3), 2);
            if (k > 0) {
                TailMerger less = alike(2, zeros(k - 1));
                less.setJumpCost(j);
                due("saving 0, jump cost " + j, less.tailSaving(3), 0);
                due("not merged, jump cost " + j, less.mergeTail(3), NOT_PROFITABLE);
                due("no new block", less.blockCount(), 2);
            }
        }
        due("saving -1", withBlocks(2).mergeTail(3), NOT_PROFITABLE);
        TailMerger jumps = withBlocks(2);
        jumps.setJumpCost(0);
        endAll(jumps, 2, JUMP);
        due("empty free jumps, saving 0", jumps.mergeTail(3), NOT_PROFITABLE);
        TailMerger three = alike(3, 1);
        due("three blocks, saving 1", three.mergeTail(7), 3);
    }

    private static void mergeNotProfitableBeforeFull() {
        sentence("promise 23", "NOT_PROFITABLE if the merge is not profitable (checked after those); FULL if there are "
                + "12 blocks");
        TailMerger x = withBlocks(12);
        emits(x, 0, 1);
        emits(x, 1, 1);
        due("saving 0", x.mergeTail(3), NOT_PROFITABLE);
        due("saving -1", x.mergeTail(4095), NOT_PROFITABLE);
        emits(x, 0, 2, 3);
        emits(x, 1, 2, 3);
        due("saving 2", x.mergeTail(3), FULL);
    }

    private static void mergeFull() {
        sentence("promise 23", "FULL if there are 12 blocks");
        TailMerger x = withBlocks(11);
        for (int block = 7; block < 11; block++) {
            emits(x, block, block / 2, block / 2, block / 2);
        }
        due("with 11", x.mergeTail(3 << 8), 11);
        emits(x, 7, 5, 5);
        emits(x, 10, 5, 5);
        due("with 12", x.mergeTail(1 << 7 | 1 << 10), FULL);
        due("nothing removed", x.instructionCount(10), 5);
        due("blocks", x.blockCount(), 12);
    }

    // ---- promises 24 and 25 ----

    /** Two blocks that differ in the number of a CONST, with EMITs of register 6 behind it. */
    private static TailMerger pair(int blocks, int length) {
        TailMerger x = withBlocks(blocks);
        for (int block = 0; block < 2; block++) {
            constant(x, block, 6, 10 + block);
            for (int more = 1; more < length; more++) {
                emits(x, block, 6);
            }
        }
        return x;
    }

    private static void parameterSavings() {
        sentence("PARAMETER MERGE", "The saving is k + t - 2 * j - 2, with t and j as above (so t is 1).");
        for (int k = 1; k <= 10; k++) {
            TailMerger x = pair(2, k);
            for (int j = 0; j <= 5; j++) {
                x.setJumpCost(j);
                due("k " + k + ", j " + j, x.parameterSaving(0, 1), k - 1 - 2 * j);
            }
        }
        for (int j = 0; j <= 5; j++) {
            TailMerger x = pair(2, 4);
            x.setJumpCost(j);
            int size = x.codeSize();
            int saving = x.parameterSaving(0, 1);
            x.mergeWithParameter(0, 1);
            due("size, j " + j, x.codeSize(), size - saving);
        }
    }

    private static void parameterSavingNegative() {
        sentence("promise 24", "It may be negative.");
        TailMerger x = pair(2, 1);
        due("one instruction", x.parameterSaving(0, 1), -2);
        x.setJumpCost(5);
        due("one instruction, dear jumps", x.parameterSaving(0, 1), -10);
        x.setJumpCost(0);
        due("one instruction, free jumps", x.parameterSaving(0, 1), 0);
    }

    private static void parameterSavingErrors() {
        sentence("promise 24", "NO_SUCH_BLOCK, OUT_OF_RANGE and DIFFERENT as in parameterTail, in this order");
        TailMerger x = pair(3, 3);
        for (int stranger : strangers(3)) {
            due("first " + stranger, x.parameterSaving(stranger, 0), NO_SUCH_BLOCK);
            due("second " + stranger, x.parameterSaving(0, stranger), NO_SUCH_BLOCK);
            due("the same twice " + stranger, x.parameterSaving(stranger, stranger), NO_SUCH_BLOCK);
        }
        for (int block = 0; block < 3; block++) {
            due("the same block", x.parameterSaving(block, block), OUT_OF_RANGE);
        }
        due("an empty block", x.parameterSaving(0, 2), DIFFERENT);
        x.setJump(0, 2);
        due("unlike terminators", x.parameterSaving(0, 1), DIFFERENT);
        x.setJump(1, 2);
        due("equal jumps", x.parameterSaving(0, 1), DIFFERENT);
        due("the same block with a jump", x.parameterSaving(0, 0), OUT_OF_RANGE);
    }

    private static void parameterMergeMakesBlock() {
        sentence("PARAMETER MERGE", "at the position where they differ it has COPY with the same destination d, a = 7 "
                + "and b = 0");
        for (int place = 0; place < 10; place++) {
            TailMerger x = withBlocks(2);
            for (int index = 0; index < 10; index++) {
                constant(x, 0, 6, index == place ? 999 : index);
                constant(x, 1, 6, index == place ? -999 : index);
            }
            x.setReturn(0, 6);
            x.setReturn(1, 6);
            due("the new block", x.mergeWithParameter(0, 1), 2);
            due("its length", x.instructionCount(2), 10);
            for (int index = 0; index < 10; index++) {
                due("opcode " + index, x.opcode(2, index), index == place ? COPY : CONST);
                due("a of " + index, x.operandA(2, index), index == place ? 7 : index);
            }
            dueInstruction(x, 2, place, COPY, 6, 7, 0, 3);
            dueReturn(x, 2, 6);
            due("a run of it", x.run(20), 13);
            due("its register 7", x.register(7), 999);
            due("its register 6", x.register(6), place == 9 ? 999 : 9);
        }
    }

    private static void parameterMergeNumbers() {
        sentence("PARAMETER MERGE", "In each of the two blocks the last k instructions are removed, then CONST with d = 7, "
                + "a = the block's own number and b = 0 is appended");
        for (int order = 0; order < 2; order++) {
            TailMerger x = withBlocks(2);
            emits(x, 0, 2);
            emits(x, 1, 3);
            constant(x, 0, 0, -999);
            constant(x, 1, 0, 999);
            emits(x, 0, 4, 5);
            emits(x, 1, 4, 5);
            due("merged", x.mergeWithParameter(order, 1 - order), 2);
            due("left in 0", x.instructionCount(0), 2);
            due("left in 1", x.instructionCount(1), 2);
            dueInstruction(x, 0, 0, EMIT, 0, 2, 0, 1);
            dueInstruction(x, 0, 1, CONST, 7, -999, 0, 1);
            dueInstruction(x, 1, 0, EMIT, 0, 3, 0, 2);
            dueInstruction(x, 1, 1, CONST, 7, 999, 0, 2);
            dueJump(x, 0, 2);
            dueJump(x, 1, 2);
            dueInstruction(x, 2, 0, COPY, 0, 7, 0, 3);
            due("length of the new block", x.instructionCount(2), 3);
        }
    }

    private static void parameterMergeLines() {
        sentence("PARAMETER MERGE", "Line sets are united as in a tail merge, also at that position.");
        TailMerger x = withBlocks(3);
        for (int block = 0; block < 3; block++) {
            x.addInstruction(block, CONST, 1, block / 2, 0, 10 * block);
            x.addInstruction(block, EMIT, 0, 1, 0, 10 + 10 * block);
        }
        x.mergeTail(3);
        // Block 3 now has CONST 1, 0 from lines 0 and 10, and EMIT 1 from lines 10 and 20.
        due("merged", x.mergeWithParameter(2, 3), 4);
        due("at that position", x.lines(4, 0), 1 | 1 << 10 | 1 << 20);
        due("behind it", x.lines(4, 1), 1 << 10 | 1 << 20 | 1 << 30);
        sentence("PARAMETER MERGE", "with the line set of its removed CONST");
        due("in block 2", x.lines(2, 0), 1 << 20);
        due("in block 3", x.lines(3, 0), 1 | 1 << 10);
    }

    private static void parameterMergeUnprofitable() {
        sentence("promise 25", "Makes a parameter merge of two blocks, whether it is profitable or not.");
        for (int k = 1; k <= 10; k += 3) {
            TailMerger x = pair(2, k);
            x.setJumpCost(5);
            due("saving below 0", x.parameterSaving(0, 1), k - 11);
            due("merged", x.mergeWithParameter(0, 1), 2);
        }
        TailMerger zero = pair(2, 3);
        due("saving 0", zero.parameterSaving(0, 1), 0);
        due("merged", zero.mergeWithParameter(0, 1), 2);
        TailMerger more = pair(2, 4);
        due("saving 1", more.parameterSaving(0, 1), 1);
        due("merged", more.mergeWithParameter(0, 1), 2);
    }

    private static void parameterMergeErrors() {
        sentence("promise 25", "NO_SUCH_BLOCK, OUT_OF_RANGE and DIFFERENT as in parameterTail, in this order");
        for (int blocks : new int[] {3, 12}) {
            TailMerger x = pair(blocks, 3);
            x.setJump(2, 0);
            for (int stranger : strangers(12)) {
                due("first " + stranger, x.mergeWithParameter(stranger, 2), NO_SUCH_BLOCK);
                due("second " + stranger, x.mergeWithParameter(2, stranger), NO_SUCH_BLOCK);
                due("the same twice " + stranger, x.mergeWithParameter(stranger, stranger), NO_SUCH_BLOCK);
            }
            due("the block behind the last", x.mergeWithParameter(0, blocks), NO_SUCH_BLOCK);
            due("the same block", x.mergeWithParameter(0, 0), OUT_OF_RANGE);
            due("the same block with a jump", x.mergeWithParameter(2, 2), OUT_OF_RANGE);
            due("return and jump", x.mergeWithParameter(0, 2), DIFFERENT);
            due("blocks", x.blockCount(), blocks);
        }
        due("equal blocks", alike(2, 1, 2).mergeWithParameter(0, 1), DIFFERENT);
        due("without blocks", new TailMerger().mergeWithParameter(0, 0), NO_SUCH_BLOCK);
    }

    private static void parameterMergeFull() {
        sentence("promise 25", "FULL if there are 12 blocks");
        due("with 11", pair(11, 2).mergeWithParameter(0, 1), 11);
        TailMerger x = pair(12, 2);
        due("with 12", x.mergeWithParameter(0, 1), FULL);
        due("nothing removed", x.instructionCount(0), 2);
        dueReturn(x, 0, 0);
    }

    // ---- promise 26 ----

    private static void mergeAllNothing() {
        sentence("promise 26", "Returns the number of merges.");
        due("no blocks", new TailMerger().mergeAll(), 0);
        due("one block", withBlocks(1).mergeAll(), 0);
        TailMerger x = alike(2, 1);
        due("saving 0", x.mergeAll(), 0);
        due("blocks", x.blockCount(), 2);
        TailMerger y = alike(2, 1, 2);
        due("saving 1", y.mergeAll(), 1);
        due("blocks", y.blockCount(), 3);
        due("none again", y.mergeAll(), 0);
    }

    private static void mergeAllUntilNone() {
        sentence("promise 26", "Repeats mergeTail(bestTail()) until bestTail() is NONE or there are 12 blocks");
        for (int j = 0; j <= 2; j++) {
            TailMerger x = steps(j);
            TailMerger y = steps(j);
            int merges = 0;
            while (merges < 12 && y.bestTail() != NONE && y.mergeTail(y.bestTail()) >= 0) {
                merges++;
            }
            due("merges, jump cost " + j, x.mergeAll(), merges);
            due("room is left, jump cost " + j, x.blockCount() < 12 ? 1 : 0, 1);
            due("nothing is left, jump cost " + j, x.bestTail(), NONE);
            dueSame("jump cost " + j, x, y);
        }
    }

    /** Five blocks; each ends like the next longer one. */
    private static TailMerger steps(int jumpCost) {
        TailMerger x = withBlocks(5);
        for (int block = 0; block < 5; block++) {
            for (int register = 6 - block; register <= 6; register++) {
                emits(x, block, register, register);
            }
        }
        x.setJumpCost(jumpCost);
        return x;
    }

    private static void mergeAllUntilFull() {
        sentence("promise 26", "or there are 12 blocks");
        for (int room = 0; room <= 2; room++) {
            TailMerger x = withBlocks(12 - room);
            for (int block = 0; block < 10; block++) {
                emits(x, block, block / 2, block / 2, block / 2);
            }
            due("room for " + room, x.mergeAll(), room);
            due("blocks", x.blockCount(), 12);
            // All savings are equal, so the pairs with the smallest numbers came first.
            due("the first pair that is left", x.bestTail(), 3 << 2 * room);
            due("no room", x.mergeAll(), 0);
        }
        TailMerger full = alike(12, 1, 2, 3);
        due("no room at first", full.mergeAll(), 0);
        dueSame("nothing merged", full, alike(12, 1, 2, 3));
    }

    private static void mergeAllAnew() {
        sentence("promise 26", "bestTail() is computed anew before each merge and also considers the blocks created by "
                + "earlier merges");
        TailMerger x = withBlocks(3);
        x.setJumpCost(0);
        emits(x, 0, 1, 2, 3, 4);
        emits(x, 1, 1, 2, 3, 4);
        emits(x, 2, 4);
        // Saving 5 for blocks 0 and 1; then block 2 shares its end with block 3 alone.
        due("best", x.bestTail(), 3);
        due("merges", x.mergeAll(), 2);
        dueJump(x, 0, 3);
        dueJump(x, 3, 4);
        dueJump(x, 2, 4);
        due("left in the block of the first merge", x.instructionCount(3), 3);
        due("in the block of the second merge", x.instructionCount(4), 1);
    }
}
