import java.util.ArrayList;
import java.util.List;

/** What the tests share: the document's codes, small programs, and checks under a sentence of the document. */
abstract class TestHelp {
    static final int NO_SUCH_BLOCK = -1001, NO_SUCH_INSTRUCTION = -1002, OUT_OF_RANGE = -1003, FULL = -1004,
            DIFFERENT = -1005, NOT_PROFITABLE = -1006, TIMEOUT = -1007, NONE = -1008, NOT_SAVED = -1009;
    static final int CONST = 0, COPY = 1, ADD = 2, SUB = 3, MUL = 4, LESS = 5, EMIT = 6;
    static final int JUMP = 0, BRANCH = 1, RETURN = 2;
    static final int MIN = Integer.MIN_VALUE, MAX = Integer.MAX_VALUE;

    static final Check CHECK = new Check();

    /** A call on an object, for tests that make the same call on several. */
    interface Call {
        int on(TailMerger x);
    }

    /** The checks from here on belong to these words, found at this place of the document. */
    static void sentence(String place, String words) {
        CHECK.sentence(place + " \"" + words + "\"");
    }

    static void due(String what, int got, int want) {
        CHECK.due(what, got, want);
    }

    static TailMerger withBlocks(int count) {
        TailMerger x = new TailMerger();
        for (int block = 0; block < count; block++) {
            x.addBlock();
        }
        return x;
    }

    /** Numbers that are no index of a block where there are so many blocks. */
    static int[] strangers(int blocks) {
        return new int[] {-1, blocks, blocks + 1, 12, 31, 32, MIN, MAX};
    }

    /** Adds EMITs of the registers, from the first to the last. */
    static void emits(TailMerger x, int block, int... registers) {
        for (int register : registers) {
            x.addInstruction(block, EMIT, 0, register, 0, block);
        }
    }

    /** Adds a CONST, which comes from the line of the block's own number. */
    static void constant(TailMerger x, int block, int d, int number) {
        x.addInstruction(block, CONST, d, number, 0, block);
    }

    /** Adds ten EMITs, each of register 0. */
    static void fill(TailMerger x, int block) {
        emits(x, block, 0, 0, 0, 0, 0, 0, 0, 0, 0, 0);
    }

    /** Checks opcode, destination, operands and line set of one instruction. */
    static void dueInstruction(TailMerger x, int block, int index, int... want) {
        String where = " of " + block + "," + index;
        due("opcode" + where, x.opcode(block, index), want[0]);
        due("destination" + where, x.destination(block, index), want[1]);
        due("operandA" + where, x.operandA(block, index), want[2]);
        due("operandB" + where, x.operandB(block, index), want[3]);
        due("lines" + where, x.lines(block, index), want[4]);
    }

    static void dueJump(TailMerger x, int block, int target) {
        due("terminatorKind of " + block, x.terminatorKind(block), JUMP);
        due("target of " + block, x.terminatorOperand(block, 0), target);
    }

    static void dueBranch(TailMerger x, int block, int register, int ifNotZero, int ifZero) {
        due("terminatorKind of " + block, x.terminatorKind(block), BRANCH);
        due("tested register of " + block, x.terminatorOperand(block, 0), register);
        due("block if not zero of " + block, x.terminatorOperand(block, 1), ifNotZero);
        due("block if zero of " + block, x.terminatorOperand(block, 2), ifZero);
    }

    static void dueReturn(TailMerger x, int block, int register) {
        due("terminatorKind of " + block, x.terminatorKind(block), RETURN);
        due("returned register of " + block, x.terminatorOperand(block, 0), register);
    }

    /** The hash of promise 16 over a row of numbers, reckoned without Java's own wrap-around. */
    static int hash(int... numbers) {
        return (int) (unclearedHash(numbers) % (1L << 31));
    }

    /** The hash before its sign bit is cleared, as a number from 0 to 2^32 - 1. */
    static long unclearedHash(int... numbers) {
        long h = 17;
        for (int number : numbers) {
            h = Math.floorMod(31 * h + number, 1L << 32);
        }
        return h;
    }

    /**
     * All that calls can tell of an object, in at most 300 calls: the last run's results, the program, the
     * jump cost, the initial values, and the same of both slots. The object is used up by it.
     */
    static List<Integer> everything(TailMerger x) {
        List<Integer> seen = new ArrayList<>();
        addResults(seen, x);
        addProgram(seen, x);
        for (int slot = 0; slot < 2; slot++) {
            int answer = x.restore(slot);
            seen.add(answer);
            if (answer == 1) {
                addProgram(seen, x);
            }
        }
        return seen;
    }

    private static void addResults(List<Integer> seen, TailMerger x) {
        int length = x.traceLength();
        seen.add(length);
        for (int index = 0; index < Math.min(length, 20); index++) {
            seen.add(x.trace(index));
        }
        for (int register = 0; register < 8; register++) {
            seen.add(x.register(register));
        }
    }

    /** A tail's hash tells of all its fields but the lines. Changes the jump cost and the last run's results. */
    private static void addProgram(List<Integer> seen, TailMerger x) {
        int blocks = x.blockCount();
        seen.add(blocks);
        for (int block = 0; block < blocks; block++) {
            int count = x.instructionCount(block);
            seen.add(count);
            seen.add(x.tailHash(block, count));
            for (int index = 0; index < count; index++) {
                seen.add(x.lines(block, index));
            }
        }
        seen.add(x.setJumpCost(0));
        // One step from the start shows the initial values, but for a register that this step writes.
        x.addBlock();
        x.run(1);
        for (int register = 0; register < 8; register++) {
            seen.add(x.register(register));
        }
    }

    static void dueSame(String what, TailMerger got, TailMerger want) {
        List<Integer> gotAll = everything(got);
        List<Integer> wantAll = everything(want);
        CHECK.holds(what + ": the state " + gotAll + ", due is " + wantAll + ", and equal", gotAll.equals(wantAll));
    }
}
