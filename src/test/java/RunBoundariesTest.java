/** Promises 27 to 31 and what the description says of the machine and of runs: a method a boundary sentence. */
public final class RunBoundariesTest extends TestHelp {
    public static void main(String[] args) {
        arithmeticWraps();
        constNumbers();
        copies();
        lessBounds();
        sameRegisters();
        emitOfExtremes();
        register7OnlyByMerge();
        setRegisterRange();
        setRegisterValues();
        startsAtBlock0();
        startsAnew();
        startsWithRegister7Zero();
        stepsCounted();
        jumpToItself();
        branchTargets();
        initialValuesStay();
        maxStepsRange();
        maxStepsFirst();
        runNoBlocks();
        runRefusedKeepsResults();
        timeoutBound();
        timeoutAt1000();
        traceLengthNoRun();
        traceLengthOfTimeout();
        traceLengthOfLastRun();
        traceBounds();
        traceNoRun();
        traceOfLastRun();
        registerBounds();
        registerNoRun();
        registerOfLastRun();
        calls512();
        CHECK.finish();
    }

    // ---- the machine ----

    /** What register 3 holds after an instruction on register 1 with value a and register 2 with value b. */
    private static int result(int opcode, int a, int b) {
        TailMerger x = withBlocks(1);
        x.setRegister(1, a);
        x.setRegister(2, b);
        x.setRegister(3, 123456);
        x.addInstruction(0, opcode, 3, 1, 2, 0);
        x.run(2);
        return x.register(3);
    }

    private static void arithmeticWraps() {
        sentence("MACHINE", "Arithmetic wraps around on overflow.");
        due("MAX + 1", result(ADD, MAX, 1), MIN);
        due("MIN + -1", result(ADD, MIN, -1), MAX);
        due("MAX + MAX", result(ADD, MAX, MAX), -2);
        due("MIN + MIN", result(ADD, MIN, MIN), 0);
        due("MIN - 1", result(SUB, MIN, 1), MAX);
        due("MAX - -1", result(SUB, MAX, -1), MIN);
        due("0 - MIN", result(SUB, 0, MIN), MIN);
        due("MIN - MAX", result(SUB, MIN, MAX), 1);
        due("MIN * -1", result(MUL, MIN, -1), MIN);
        due("MAX * 2", result(MUL, MAX, 2), -2);
        due("MAX * MAX", result(MUL, MAX, MAX), 1);
        due("65536 * 65536", result(MUL, 65536, 65536), 0);
        due("46341 * 46341", result(MUL, 46341, 46341), -2147479015);
        due("MAX + 0", result(ADD, MAX, 0), MAX);
        due("MIN - 0", result(SUB, MIN, 0), MIN);
        due("46340 * 46340", result(MUL, 46340, 46340), 2147395600);
    }

    private static void constNumbers() {
        sentence("INSTRUCTIONS", "CONST: register d becomes the number a");
        for (int number : new int[] {-999, -1, 0, 6, 7, 8, 999}) {
            for (int d = 0; d <= 6; d++) {
                TailMerger x = withBlocks(1);
                x.setRegister(d, 55);
                constant(x, 0, d, number);
                x.run(1);
                due("register " + d, x.register(d), number);
            }
        }
    }

    private static void copies() {
        sentence("INSTRUCTIONS", "COPY: register d becomes the value of register a");
        for (int value : new int[] {MIN, -1, 0, MAX}) {
            TailMerger x = withBlocks(1);
            x.setRegister(0, value);
            x.setRegister(6, 5);
            x.addInstruction(0, COPY, 6, 0, 0, 0);
            x.run(1);
            due("register 6", x.register(6), value);
            due("register 0", x.register(0), value);
        }
    }

    private static void lessBounds() {
        sentence("INSTRUCTIONS", "LESS: register d becomes 1 if the value of register a is less than the value of "
                + "register b, otherwise 0.");
        due("equal", result(LESS, 5, 5), 0);
        due("one less", result(LESS, 4, 5), 1);
        due("one more", result(LESS, 6, 5), 0);
        due("MIN and MAX", result(LESS, MIN, MAX), 1);
        due("MAX and MIN", result(LESS, MAX, MIN), 0);
        due("MIN and MIN", result(LESS, MIN, MIN), 0);
        due("MAX and MAX", result(LESS, MAX, MAX), 0);
        due("-1 and 0", result(LESS, -1, 0), 1);
        due("0 and -1", result(LESS, 0, -1), 0);
        due("MIN and 1", result(LESS, MIN, 1), 1);
        due("1 and MIN", result(LESS, 1, MIN), 0);
    }

    private static void sameRegisters() {
        sentence("INSTRUCTIONS", "the sum, the difference (a minus b), or the product of the values of registers a and b");
        int[][] rows = {{ADD, 14}, {SUB, 0}, {MUL, 49}, {LESS, 0}};
        for (int[] row : rows) {
            TailMerger x = withBlocks(1);
            x.setRegister(4, 7);
            x.addInstruction(0, row[0], 4, 4, 4, 0);
            x.run(1);
            due("opcode " + row[0] + " on one register", x.register(4), row[1]);
        }
        due("a minus b", result(SUB, 3, 10), -7);
    }

    private static void emitOfExtremes() {
        sentence("INSTRUCTIONS", "EMIT: the value of register a is appended to the trace");
        TailMerger x = withBlocks(1);
        x.setRegister(0, MIN);
        x.setRegister(6, MAX);
        emits(x, 0, 0, 6, 5);
        x.run(10);
        due("length", x.traceLength(), 3);
        due("first", x.trace(0), MIN);
        due("second", x.trace(1), MAX);
        due("third", x.trace(2), 0);
        due("register 0 is not written", x.register(0), MIN);
    }

    private static void register7OnlyByMerge() {
        sentence("MACHINE", "only code that is created by mergeWithParameter uses it");
        TailMerger x = withBlocks(2);
        due("written", x.addInstruction(0, CONST, 7, 0, 0, 0), OUT_OF_RANGE);
        due("read as a", x.addInstruction(0, COPY, 0, 7, 0, 0), OUT_OF_RANGE);
        due("read as b", x.addInstruction(0, ADD, 0, 0, 7, 0), OUT_OF_RANGE);
        due("emitted", x.addInstruction(0, EMIT, 0, 7, 0, 0), OUT_OF_RANGE);
        due("tested", x.setBranch(0, 7, 0, 0), OUT_OF_RANGE);
        due("returned", x.setReturn(0, 7), OUT_OF_RANGE);
        due("set", x.setRegister(7, 1), OUT_OF_RANGE);
        x.run(5);
        due("its value", x.register(7), 0);
        constant(x, 0, 1, 998);
        constant(x, 1, 1, 999);
        x.mergeWithParameter(0, 1);
        x.run(5);
        due("its value by a parameter merge", x.register(7), 998);
    }

    // ---- promise 27 ----

    private static void setRegisterRange() {
        sentence("promise 27", "Returns 1; OUT_OF_RANGE if register is out of range.");
        TailMerger x = withBlocks(1);
        for (int register = 0; register <= 6; register++) {
            due("register " + register, x.setRegister(register, 10 + register), 1);
        }
        for (int register : new int[] {-1, 7, 8, MIN, MAX}) {
            due("register " + register, x.setRegister(register, 99), OUT_OF_RANGE);
        }
        x.run(1);
        for (int register = 0; register <= 7; register++) {
            due("value of " + register, x.register(register), register == 7 ? 0 : 10 + register);
        }
    }

    private static void setRegisterValues() {
        sentence("promise 27", "Sets the initial value of a register.");
        TailMerger x = withBlocks(1);
        for (int value : new int[] {MIN, MAX, -1, 1000, OUT_OF_RANGE, 0}) {
            due("value " + value, x.setRegister(6, value), 1);
            x.run(1);
            due("in the run", x.register(6), value);
        }
    }

    // ---- promise 28 ----

    private static void startsAtBlock0() {
        sentence("BLOCKS", "Execution starts at instruction 0 of block 0.");
        TailMerger x = withBlocks(2);
        emits(x, 1, 0);
        due("empty block 0", x.run(10), 1);
        due("nothing of block 1", x.traceLength(), 0);
        x.setRegister(1, 1);
        emits(x, 0, 1, 2);
        due("two instructions", x.run(10), 3);
        due("the first one", x.trace(0), 1);
    }

    private static void startsAnew() {
        sentence("RUN", "A run starts with the initial register values that were set, with register 7 equal to 0, and "
                + "with an empty trace.");
        TailMerger x = withBlocks(1);
        x.addInstruction(0, ADD, 1, 1, 1, 0);
        emits(x, 0, 1);
        x.setRegister(1, 5);
        for (int round = 0; round < 3; round++) {
            due("steps", x.run(10), 3);
            due("length", x.traceLength(), 1);
            due("value", x.trace(0), 10);
        }
    }

    private static void startsWithRegister7Zero() {
        sentence("RUN", "with register 7 equal to 0");
        TailMerger x = withBlocks(3);
        constant(x, 1, 1, 5);
        constant(x, 2, 1, 6);
        x.mergeWithParameter(1, 2);
        x.setRegister(1, 77);
        x.setJump(0, 1);
        x.run(10);
        due("by way of block 1", x.register(1), 5);
        due("register 7 is left with it", x.register(7), 5);
        x.setJump(0, 3);
        due("straight to the COPY", x.run(10), 3);
        due("register 7 was 0", x.register(1), 0);
        due("and is", x.register(7), 0);
    }

    private static void stepsCounted() {
        sentence("RUN", "Each instruction and each terminator is one step.");
        for (int count = 0; count <= 10; count++) {
            TailMerger x = withBlocks(2);
            for (int index = 0; index < count; index++) {
                emits(x, 0, 0);
            }
            due(count + " and a return", x.run(1000), count + 1);
            x.setJump(0, 1);
            due(count + ", a jump and a return", x.run(1000), count + 2);
            x.setBranch(0, 0, 0, 1);
            due(count + ", a branch and a return", x.run(1000), count + 2);
        }
        TailMerger chain = withBlocks(12);
        for (int block = 0; block < 12; block++) {
            fill(chain, block);
            if (block < 11) {
                chain.setJump(block, block + 1);
            }
        }
        due("twelve full blocks", chain.run(1000), 132);
        due("their trace", chain.traceLength(), 120);
    }

    private static void jumpToItself() {
        sentence("TERMINATORS", "JUMP goes to instruction 0 of a block.");
        TailMerger x = withBlocks(1);
        x.addInstruction(0, ADD, 0, 0, 1, 0);
        emits(x, 0, 0);
        x.setRegister(1, 1);
        x.setJump(0, 0);
        due("three rounds", x.run(9), TIMEOUT);
        due("length", x.traceLength(), 3);
        due("third round", x.trace(2), 3);
    }

    private static void branchTargets() {
        sentence("TERMINATORS", "it goes to the first block if the value of the register is not 0, and to the second "
                + "block otherwise");
        for (int value : new int[] {0, 1, -1, MIN, MAX, 65536}) {
            TailMerger x = withBlocks(3);
            x.setRegister(5, value);
            x.setBranch(0, 5, 1, 2);
            constant(x, 1, 0, 11);
            constant(x, 2, 0, 22);
            x.run(10);
            due("value " + value, x.register(0), value == 0 ? 22 : 11);
        }
    }

    private static void initialValuesStay() {
        sentence("RUN", "It does not change the initial register values.");
        TailMerger x = withBlocks(1);
        for (int register = 0; register <= 6; register++) {
            x.setRegister(register, 9);
            emits(x, 0, register);
        }
        x.addInstruction(0, ADD, 2, 2, 2, 0);
        for (int round = 0; round < 2; round++) {
            due("ended", x.run(100), 9);
            due("written", x.register(2), 18);
            due("timeout", x.run(8), TIMEOUT);
            for (int register = 0; register <= 6; register++) {
                due("read before it is written", x.trace(register), 9);
            }
        }
        x.save(0);
        x.restore(0);
        x.run(7);
        due("saved after a run", x.register(2), 9);
    }

    private static void maxStepsRange() {
        sentence("promise 28", "`maxSteps`: 1 to 1000");
        TailMerger x = withBlocks(1);
        for (int steps : new int[] {1, 2, 999, 1000}) {
            due("run(" + steps + ")", x.run(steps), 1);
        }
        for (int steps : new int[] {0, -1, 1001, 1002, MIN, MAX}) {
            due("run(" + steps + ")", x.run(steps), OUT_OF_RANGE);
        }
    }

    private static void maxStepsFirst() {
        sentence("promise 28", "OUT_OF_RANGE if maxSteps is out of range (checked first)");
        for (int steps : new int[] {0, -1, 1001, MIN, MAX}) {
            due("run(" + steps + ") without blocks", new TailMerger().run(steps), OUT_OF_RANGE);
        }
    }

    private static void runNoBlocks() {
        sentence("promise 28", "NO_SUCH_BLOCK if there are no blocks");
        TailMerger x = new TailMerger();
        due("run(1)", x.run(1), NO_SUCH_BLOCK);
        due("run(1000)", x.run(1000), NO_SUCH_BLOCK);
        x.save(0);
        x.addBlock();
        due("with a block", x.run(1), 1);
        x.restore(0);
        due("without it again", x.run(1), NO_SUCH_BLOCK);
    }

    private static void runRefusedKeepsResults() {
        sentence("promise 28", "If there are no blocks, or maxSteps is out of range, no run is made, and the results of "
                + "an earlier run stay.");
        TailMerger x = new TailMerger();
        x.save(0);
        x.addBlock();
        x.setRegister(6, 66);
        emits(x, 0, 6, 6);
        x.run(10);
        x.setRegister(6, 77);
        for (int steps : new int[] {0, 1001, MIN, MAX}) {
            due("out of range", x.run(steps), OUT_OF_RANGE);
            dueTwoTimes66(x);
        }
        x.restore(0);
        due("no blocks", x.run(10), NO_SUCH_BLOCK);
        dueTwoTimes66(x);
        due("both", x.run(0), OUT_OF_RANGE);
        dueTwoTimes66(x);
        TailMerger y = new TailMerger();
        y.setRegister(6, 66);
        y.run(10);
        due("no run made", y.register(6), 0);
    }

    private static void dueTwoTimes66(TailMerger x) {
        due("length", x.traceLength(), 2);
        due("value", x.trace(1), 66);
        due("register", x.register(6), 66);
    }

    private static void timeoutBound() {
        sentence("promise 28", "TIMEOUT if maxSteps steps were executed and the last one was not a RETURN");
        TailMerger x = withBlocks(2);
        emits(x, 0, 0, 0);
        x.setJump(0, 1);
        emits(x, 1, 0);
        for (int steps = 1; steps <= 6; steps++) {
            due("five steps in " + steps, x.run(steps), steps < 5 ? TIMEOUT : 5);
            due("their trace", x.traceLength(), Math.min(steps, 2) + (steps >= 4 ? 1 : 0));
        }
        TailMerger y = withBlocks(1);
        due("a return alone", y.run(1), 1);
        y.setJump(0, 0);
        due("a jump alone", y.run(1), TIMEOUT);
        y.setBranch(0, 0, 0, 0);
        due("a branch alone", y.run(1), TIMEOUT);
    }

    private static void timeoutAt1000() {
        sentence("promise 28", "Returns the number of steps if the run ended with a RETURN");
        TailMerger x = withBlocks(2);
        x.addInstruction(0, SUB, 0, 0, 1, 0);
        x.setBranch(0, 0, 0, 1);
        x.setRegister(0, 499);
        x.setRegister(1, 1);
        due("999 steps", x.run(1000), 999);
        due("999 steps in 998", x.run(998), TIMEOUT);
        emits(x, 1, 0);
        due("1000 steps", x.run(1000), 1000);
        due("1000 steps in 999", x.run(999), TIMEOUT);
        emits(x, 1, 0);
        due("1001 steps", x.run(1000), TIMEOUT);
        due("their trace", x.traceLength(), 2);
    }

    // ---- promises 29 to 31 ----

    private static void traceLengthNoRun() {
        sentence("promise 29", "0 if no run was made");
        due("new", new TailMerger().traceLength(), 0);
        TailMerger x = withBlocks(1);
        emits(x, 0, 0);
        due("before a run", x.traceLength(), 0);
        x.run(0);
        due("after a refused run", x.traceLength(), 0);
    }

    private static void traceLengthOfTimeout() {
        sentence("promise 29", "Returns the number of values in the trace of the last run, also if it ended with TIMEOUT");
        TailMerger x = withBlocks(1);
        fill(x, 0);
        x.setJump(0, 0);
        due("timeout", x.run(1000), TIMEOUT);
        due("the longest trace", x.traceLength(), 910);
        due("timeout at once", x.run(1), TIMEOUT);
        due("one value", x.traceLength(), 1);
        x.run(11);
        due("one round", x.traceLength(), 10);
        x.run(12);
        due("one round and one", x.traceLength(), 11);
    }

    private static void traceLengthOfLastRun() {
        sentence("promise 29", "the trace of the last run");
        TailMerger x = withBlocks(2);
        emits(x, 0, 0, 0, 0);
        x.setReturn(0, 0);
        x.run(10);
        due("three", x.traceLength(), 3);
        emits(x, 0, 0);
        due("not of the program", x.traceLength(), 3);
        x.run(2);
        due("two", x.traceLength(), 2);
        TailMerger y = withBlocks(1);
        y.save(0);
        emits(y, 0, 0);
        y.run(5);
        y.restore(0);
        y.run(5);
        due("a run without EMIT", y.traceLength(), 0);
    }

    private static void traceBounds() {
        sentence("promise 30", "0 if there is no such value");
        TailMerger x = withBlocks(1);
        x.setRegister(0, 9);
        fill(x, 0);
        x.setJump(0, 0);
        x.run(1000);
        due("first", x.trace(0), 9);
        due("last", x.trace(909), 9);
        for (int index : new int[] {910, 911, 999, 1000, 1001, -1, -2, MIN, MAX}) {
            due("index " + index, x.trace(index), 0);
        }
        x.run(3);
        due("last of three", x.trace(2), 9);
        due("behind the last of three", x.trace(3), 0);
        due("of an earlier run", x.trace(909), 0);
    }

    private static void traceNoRun() {
        sentence("promise 30", "0 if there is no such value");
        for (int index : new int[] {0, 1, 999, 1000, -1, MIN, MAX}) {
            due("no run, index " + index, new TailMerger().trace(index), 0);
        }
    }

    private static void traceOfLastRun() {
        sentence("promise 30", "Returns value number index, from 0, of the trace of the last run");
        TailMerger x = withBlocks(1);
        x.addInstruction(0, ADD, 0, 0, 1, 0);
        emits(x, 0, 0);
        x.setJump(0, 0);
        x.setRegister(1, 1);
        x.run(1000);
        for (int index = 0; index <= 332; index += 4) {
            due("index " + index, x.trace(index), index + 1);
        }
        x.setRegister(1, -5);
        due("before the next run", x.trace(100), 101);
        x.run(6);
        due("of the next run", x.trace(1), -10);
    }

    private static void registerBounds() {
        sentence("promise 31", "0 if there is no such register");
        TailMerger x = withBlocks(2);
        constant(x, 0, 1, 5);
        constant(x, 1, 1, 6);
        x.mergeWithParameter(0, 1);
        for (int register = 0; register <= 6; register++) {
            x.setRegister(register, 100 + register);
        }
        x.run(10);
        due("register 0", x.register(0), 100);
        due("register 6", x.register(6), 106);
        due("register 7", x.register(7), 5);
        for (int register : new int[] {-1, 8, 9, MIN, MAX}) {
            due("register " + register, x.register(register), 0);
        }
    }

    private static void registerNoRun() {
        sentence("promise 31", "or no run was made");
        TailMerger x = withBlocks(1);
        for (int register = 0; register <= 6; register++) {
            x.setRegister(register, 5);
        }
        x.run(1001);
        for (int register = -1; register <= 8; register++) {
            due("register " + register, x.register(register), 0);
        }
    }

    private static void registerOfLastRun() {
        sentence("promise 31", "Returns the value that a register, 0 to 7, had at the end of the last run");
        TailMerger x = withBlocks(1);
        x.setRegister(3, 30);
        constant(x, 0, 2, 20);
        constant(x, 0, 2, 21);
        due("timeout", x.run(1), TIMEOUT);
        due("after one step", x.register(2), 20);
        due("ended", x.run(3), 3);
        due("after all steps", x.register(2), 21);
        x.setRegister(3, 31);
        due("not the initial value that was set since", x.register(3), 30);
        x.run(3);
        due("of the next run", x.register(3), 31);
    }

    private static void calls512() {
        sentence("What it is", "An object is used for at most 512 calls after it has been made");
        TailMerger x = new TailMerger();
        due("call 1", x.addBlock(), 0);
        for (int call = 2; call <= 11; call++) {
            due("call " + call, x.addInstruction(0, EMIT, 0, 1, 0, 0), call - 2);
        }
        due("call 12", x.setJump(0, 0), RETURN);
        due("call 13", x.setRegister(1, 8), 1);
        for (int call = 14; call <= 510; call++) {
            due("call " + call, x.run(1000), TIMEOUT);
        }
        due("call 511", x.traceLength(), 910);
        due("call 512", x.trace(909), 8);
    }
}
