/** The four examples of the document's description, call by call. */
public final class ExamplesTest {
    private static final Check CHECK = new Check();

    public static void main(String[] args) {
        mergeableBlocks();
        threeBlocksAndRun();
        parameterMerge();
        errorsHashAndEndlessRun();
        CHECK.finish();
    }

    private static void mergeableBlocks() {
        TailMerger x = new TailMerger();
        due("1 addBlock", x.addBlock(), 0);
        due("1 addBlock", x.addBlock(), 1);
        due("1 EMIT in 0", x.addInstruction(0, 6, 0, 0, 0, 2), 0);
        due("1 ADD in 0", x.addInstruction(0, 2, 1, 0, 0, 3), 1);
        due("1 EMIT in 1", x.addInstruction(1, 6, 0, 0, 0, 5), 0);
        due("1 ADD in 1", x.addInstruction(1, 2, 1, 0, 0, 6), 1);
        due("1 setJump", x.setJump(0, 1), 2);
        due("1 commonTail, other terminators", x.commonTail(0, 1), -1005);
        due("1 setReturn", x.setReturn(0, 0), 0);
        due("1 commonTail", x.commonTail(0, 1), 2);
        due("1 tailSaving", x.tailSaving(3), 1);
        due("1 mergeTail", x.mergeTail(3), 2);
    }

    private static void threeBlocksAndRun() {
        TailMerger x = new TailMerger();
        due("2 addBlock", x.addBlock(), 0);
        due("2 addBlock", x.addBlock(), 1);
        due("2 addBlock", x.addBlock(), 2);
        due("2 MUL in 0", x.addInstruction(0, 4, 1, 0, 0, 2), 0);
        due("2 EMIT in 0", x.addInstruction(0, 6, 0, 1, 0, 3), 1);
        due("2 MUL in 1", x.addInstruction(1, 4, 1, 0, 0, 5), 0);
        due("2 EMIT in 1", x.addInstruction(1, 6, 0, 1, 0, 6), 1);
        due("2 MUL in 2", x.addInstruction(2, 4, 1, 0, 0, 8), 0);
        due("2 EMIT in 2", x.addInstruction(2, 6, 0, 1, 0, 9), 1);
        due("2 codeSize before", x.codeSize(), 9);
        due("2 bestTail", x.bestTail(), 7);
        due("2 mergeTail", x.mergeTail(7), 3);
        due("2 codeSize after", x.codeSize(), 6);
        due("2 lines", x.lines(3, 0), 292);
        due("2 setRegister", x.setRegister(0, 6), 1);
        due("2 run", x.run(10), 4);
        due("2 trace", x.trace(0), 36);
    }

    private static void parameterMerge() {
        TailMerger x = new TailMerger();
        due("3 addBlock", x.addBlock(), 0);
        due("3 addBlock", x.addBlock(), 1);
        due("3 CONST in 0", x.addInstruction(0, 0, 1, 10, 0, 0), 0);
        due("3 EMIT in 0", x.addInstruction(0, 6, 0, 1, 0, 1), 1);
        due("3 CONST in 1", x.addInstruction(1, 0, 1, 20, 0, 2), 0);
        due("3 EMIT in 1", x.addInstruction(1, 6, 0, 1, 0, 3), 1);
        due("3 parameterTail", x.parameterTail(0, 1), 2);
        due("3 parameterSaving", x.parameterSaving(0, 1), -1);
        due("3 mergeWithParameter", x.mergeWithParameter(0, 1), 2);
        due("3 opcode", x.opcode(2, 0), 1);
        due("3 operandA of the COPY", x.operandA(2, 0), 7);
        due("3 operandA of the CONST", x.operandA(1, 0), 20);
        due("3 run", x.run(10), 5);
        due("3 trace", x.trace(0), 10);
    }

    private static void errorsHashAndEndlessRun() {
        TailMerger x = new TailMerger();
        due("4 addBlock", x.addBlock(), 0);
        due("4 COPY from 7", x.addInstruction(0, 1, 0, 7, 0, 0), -1003);
        due("4 all wrong", x.addInstruction(3, 9, 9, 9, 9, 99), -1001);
        due("4 tailHash", x.tailHash(0, 0), 15759439);
        due("4 tailHash, too long", x.tailHash(0, 1), -1003);
        due("4 setJump", x.setJump(0, 0), 2);
        due("4 run", x.run(4), -1007);
    }

    private static void due(String what, int got, int want) {
        CHECK.due("example " + what, got, want);
    }
}
