/** Promises 32 and 33: a method a boundary sentence. */
public final class SavingBoundariesTest extends TestHelp {
    private static final int[] WRONG_SLOTS = {-1, 2, 3, MIN, MAX};

    public static void main(String[] args) {
        saveRange();
        saveProgram();
        saveEmptyAndFull();
        saveJumpCost();
        saveInitialValues();
        saveOverwrites();
        saveSmallerOverLarger();
        slotsAreTwo();
        resultsNotSaved();
        restoreRange();
        restoreRangeFirst();
        restoreNotSaved();
        restoreLast();
        restoreKeepsSlot();
        restoreKeepsResults();
        CHECK.finish();
    }

    private static void saveRange() {
        sentence("promise 32", "Returns 1; OUT_OF_RANGE if slot is out of range.");
        TailMerger x = withBlocks(1);
        for (int slot : WRONG_SLOTS) {
            due("slot " + slot, x.save(slot), OUT_OF_RANGE);
        }
        due("slot 0 is still empty", x.restore(0), NOT_SAVED);
        due("slot 1 is still empty", x.restore(1), NOT_SAVED);
        due("slot 0", x.save(0), 1);
        due("slot 1", x.save(1), 1);
    }

    /** Two blocks with every kind of instruction, a branch, a jump, and united line sets. */
    private static TailMerger rich() {
        TailMerger x = withBlocks(2);
        for (int block = 0; block < 2; block++) {
            x.addInstruction(block, CONST, 1, -999 + block, 0, 0);
            x.addInstruction(block, COPY, 2, 1, 0, 5 + block);
            x.addInstruction(block, SUB, 3, 2, 1, 10 + block);
            x.addInstruction(block, EMIT, 0, 3, 0, 29 + block);
            x.setBranch(block, 3, 1, 0);
        }
        x.mergeTail(3);
        return x;
    }

    private static void dueRich(TailMerger x) {
        due("blocks", x.blockCount(), 3);
        due("length of 0", x.instructionCount(0), 1);
        due("length of 2", x.instructionCount(2), 3);
        dueInstruction(x, 0, 0, CONST, 1, -999, 0, 1);
        dueInstruction(x, 1, 0, CONST, 1, -998, 0, 1);
        dueInstruction(x, 2, 0, COPY, 2, 1, 0, 3 << 5);
        dueInstruction(x, 2, 1, SUB, 3, 2, 1, 3 << 10);
        dueInstruction(x, 2, 2, EMIT, 0, 3, 0, 3 << 29);
        dueJump(x, 0, 2);
        dueBranch(x, 2, 3, 1, 0);
    }

    /** Changes whatever can be changed of the program. */
    private static void spoil(TailMerger x) {
        x.addBlock();
        for (int block = 0; block < 3; block++) {
            emits(x, block, 6, 6, 6);
            x.setReturn(block, 5);
        }
        x.mergeTail(7);
    }

    private static void saveProgram() {
        sentence("promise 32", "Saves the program");
        for (int slot = 0; slot < 2; slot++) {
            TailMerger x = rich();
            x.save(slot);
            dueRich(x);
            spoil(x);
            x.restore(slot);
            dueRich(x);
            due("room behind it", x.addBlock(), 3);
            due("a new block", x.instructionCount(3), 0);
        }
    }

    private static void saveEmptyAndFull() {
        sentence("promise 32", "Saves the program");
        TailMerger x = new TailMerger();
        due("no blocks", x.save(0), 1);
        for (int block = 0; block < 12; block++) {
            x.addBlock();
            fill(x, block);
        }
        due("twelve full blocks", x.save(1), 1);
        due("back to none", x.restore(0), 1);
        due("blocks", x.blockCount(), 0);
        due("no block 0", x.instructionCount(0), NO_SUCH_BLOCK);
        due("a run", x.run(1), NO_SUCH_BLOCK);
        due("back to twelve", x.restore(1), 1);
        due("blocks", x.blockCount(), 12);
        due("size", x.codeSize(), 132);
        due("last instruction", x.lines(11, 9), 1 << 11);
        due("full", x.addBlock(), FULL);
        due("block 11 is full", x.addInstruction(11, EMIT, 0, 0, 0, 0), FULL);
    }

    private static void saveJumpCost() {
        sentence("promise 32", "the jump cost");
        for (int cost = 0; cost <= 5; cost++) {
            TailMerger x = new TailMerger();
            x.setJumpCost(cost);
            x.save(0);
            due("saving keeps it", x.setJumpCost(5 - cost), cost);
            x.restore(0);
            due("restored", x.setJumpCost(3), cost);
        }
    }

    private static void saveInitialValues() {
        sentence("promise 32", "and the initial register values in a slot");
        TailMerger x = withBlocks(1);
        for (int register = 0; register <= 6; register++) {
            x.setRegister(register, MIN + register);
        }
        x.save(1);
        for (int register = 0; register <= 6; register++) {
            x.setRegister(register, MAX);
        }
        x.restore(1);
        x.run(1);
        for (int register = 0; register <= 7; register++) {
            due("register " + register, x.register(register), register == 7 ? 0 : MIN + register);
        }
    }

    private static void saveOverwrites() {
        sentence("promise 32", "overwrites what was saved there");
        for (int slot = 0; slot < 2; slot++) {
            TailMerger x = rich();
            x.setRegister(0, 7);
            x.save(slot);
            spoil(x);
            x.setJumpCost(5);
            x.setRegister(0, 8);
            int blocks = x.blockCount();
            int size = x.codeSize();
            due("saved again", x.save(slot), 1);
            x.restore(slot);
            due("blocks", x.blockCount(), blocks);
            due("size", x.codeSize(), size);
            due("jump cost", x.setJumpCost(0), 5);
            x.run(1);
            due("initial value", x.register(0), 8);
        }
    }

    private static void saveSmallerOverLarger() {
        sentence("promise 32", "overwrites what was saved there");
        TailMerger x = new TailMerger();
        x.save(1);
        fill(x, x.addBlock());
        x.addBlock();
        x.save(0);
        x.restore(1);
        x.addBlock();
        x.save(0);
        x.restore(0);
        due("one block over two", x.blockCount(), 1);
        due("no instructions over ten", x.instructionCount(0), 0);
        x.restore(1);
        x.save(0);
        x.addBlock();
        x.restore(0);
        due("no block over one", x.blockCount(), 0);
    }

    private static void slotsAreTwo() {
        sentence("promise 32", "`slot`: 0 or 1");
        TailMerger x = withBlocks(1);
        x.setJumpCost(2);
        x.setRegister(0, 20);
        x.save(0);
        due("slot 1 is empty", x.restore(1), NOT_SAVED);
        x.addBlock();
        x.setJumpCost(3);
        x.setRegister(0, 30);
        x.save(1);
        for (int round = 0; round < 2; round++) {
            for (int slot = 0; slot < 2; slot++) {
                due("restore", x.restore(slot), 1);
                due("blocks of slot " + slot, x.blockCount(), 1 + slot);
                due("jump cost of slot " + slot, x.setJumpCost(0), 2 + slot);
                x.run(1);
                due("initial value of slot " + slot, x.register(0), 20 + 10 * slot);
            }
        }
        TailMerger y = withBlocks(1);
        y.save(1);
        due("slot 0 is empty", y.restore(0), NOT_SAVED);
    }

    private static void resultsNotSaved() {
        sentence("promise 32", "Results of runs are not saved.");
        TailMerger x = withBlocks(1);
        emits(x, 0, 1);
        x.setRegister(1, 5);
        x.run(9);
        x.save(0);
        due("saving keeps them", x.trace(0), 5);
        emits(x, 0, 1);
        x.setRegister(1, 6);
        x.run(9);
        x.restore(0);
        due("length", x.traceLength(), 2);
        due("value", x.trace(0), 6);
        due("register", x.register(1), 6);
    }

    private static void restoreRange() {
        sentence("promise 33", "OUT_OF_RANGE if slot is out of range");
        TailMerger x = withBlocks(1);
        x.save(0);
        x.save(1);
        x.addBlock();
        for (int slot : WRONG_SLOTS) {
            due("slot " + slot, x.restore(slot), OUT_OF_RANGE);
        }
        due("blocks", x.blockCount(), 2);
        due("slot 0", x.restore(0), 1);
        due("slot 1", x.restore(1), 1);
    }

    private static void restoreRangeFirst() {
        sentence("promise 33", "OUT_OF_RANGE if slot is out of range (checked first)");
        for (int slot : WRONG_SLOTS) {
            due("slot " + slot + ", nothing saved", new TailMerger().restore(slot), OUT_OF_RANGE);
        }
    }

    private static void restoreNotSaved() {
        sentence("promise 33", "NOT_SAVED if nothing was saved there");
        TailMerger x = withBlocks(2);
        due("slot 0", x.restore(0), NOT_SAVED);
        due("slot 1", x.restore(1), NOT_SAVED);
        x.save(2);
        x.save(-1);
        due("slot 0 after refused calls", x.restore(0), NOT_SAVED);
        due("slot 1 after refused calls", x.restore(1), NOT_SAVED);
        due("blocks", x.blockCount(), 2);
        TailMerger empty = new TailMerger();
        empty.save(0);
        due("an empty program was saved", empty.restore(0), 1);
        due("but not in slot 1", empty.restore(1), NOT_SAVED);
    }

    private static void restoreLast() {
        sentence("promise 33", "Restores what was saved last in a slot.");
        TailMerger x = new TailMerger();
        for (int count = 0; count <= 12; count++) {
            x.save(count % 2);
            x.addBlock();
        }
        due("slot 0", x.restore(0), 1);
        due("twelve blocks", x.blockCount(), 12);
        due("slot 1", x.restore(1), 1);
        due("eleven blocks", x.blockCount(), 11);
    }

    private static void restoreKeepsSlot() {
        sentence("promise 33", "The slot keeps it.");
        for (int slot = 0; slot < 2; slot++) {
            TailMerger x = rich();
            x.setJumpCost(5);
            x.setRegister(0, 50);
            x.save(slot);
            for (int round = 0; round < 3; round++) {
                spoil(x);
                x.setRegister(0, 60);
                due("restore", x.restore(slot), 1);
                dueRich(x);
                due("jump cost", x.setJumpCost(round), 5);
                x.run(1);
                due("initial value", x.register(0), 50);
            }
        }
    }

    private static void restoreKeepsResults() {
        sentence("promise 33", "Results of the last run stay.");
        TailMerger x = new TailMerger();
        x.save(0);
        x.addBlock();
        x.setRegister(6, 66);
        emits(x, 0, 6, 6);
        due("run", x.run(2), TIMEOUT);
        x.restore(0);
        due("length", x.traceLength(), 2);
        due("value", x.trace(1), 66);
        due("register", x.register(6), 66);
        TailMerger y = withBlocks(1);
        emits(y, 0, 1);
        y.setRegister(1, 4);
        y.save(1);
        y.restore(1);
        due("no run made", y.traceLength(), 0);
        due("no run made", y.register(1), 0);
    }
}
