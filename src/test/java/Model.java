import java.util.ArrayList;
import java.util.Arrays;
import java.util.List;

/**
 * The document's words as literally as they can be written, without a care for speed: bestTail tries
 * every set, and a tail's length is found by trying every length from the greatest down.
 */
final class Model {
    static final int NO_SUCH_BLOCK = -1001, NO_SUCH_INSTRUCTION = -1002, OUT_OF_RANGE = -1003, FULL = -1004,
            DIFFERENT = -1005, NOT_PROFITABLE = -1006, TIMEOUT = -1007, NONE = -1008, NOT_SAVED = -1009;

    record Code(int opcode, int d, int a, int b) {
        boolean reads(int register) {
            boolean a1 = opcode >= 1 && a == register;
            boolean b1 = opcode >= 2 && opcode <= 5 && b == register;
            return a1 || b1;
        }

        boolean writes(int register) {
            return opcode != 6 && d == register;
        }
    }

    record Line(Code code, int lines) { }

    record Basic(List<Line> body, List<Integer> end) {
        List<Line> tail(int length) {
            return body.subList(body.size() - length, body.size());
        }

        List<Code> codes(int length) {
            return tail(length).stream().map(Line::code).toList();
        }
    }

    record State(List<Basic> blocks, int jumpCost, List<Integer> initial) { }

    private final List<Basic> blocks = new ArrayList<>();
    private int jumpCost = 1;
    private final int[] initial = new int[7];
    private final int[] registers = new int[8];
    private final List<Integer> trace = new ArrayList<>();
    private final State[] slots = new State[2];

    private boolean lacks(int block) {
        return block < 0 || block >= blocks.size();
    }

    private static boolean within(int low, int value, int high) {
        return low <= value && value <= high;
    }

    int addBlock() {
        if (blocks.size() == 12) {
            return FULL;
        }
        blocks.add(new Basic(List.of(), List.of(2, 0)));
        return blocks.size() - 1;
    }

    int addInstruction(int block, int opcode, int d, int a, int b, int line) {
        if (lacks(block)) {
            return NO_SUCH_BLOCK;
        }
        boolean fits = within(0, opcode, 6) && within(0, line, 30)
                && (opcode == 6 ? d == 0 : within(0, d, 6))
                && (opcode == 0 ? within(-999, a, 999) : within(0, a, 6))
                && (within(2, opcode, 5) ? within(0, b, 6) : b == 0);
        if (!fits) {
            return OUT_OF_RANGE;
        }
        List<Line> body = new ArrayList<>(blocks.get(block).body());
        if (body.size() == 10) {
            return FULL;
        }
        body.add(new Line(new Code(opcode, d, a, b), 1 << line));
        blocks.set(block, new Basic(body, blocks.get(block).end()));
        return body.size() - 1;
    }

    private int end(int block, Integer... end) {
        Basic old = blocks.get(block);
        blocks.set(block, new Basic(old.body(), List.of(end)));
        return old.end().get(0);
    }

    int setJump(int block, int target) {
        return lacks(block) || lacks(target) ? NO_SUCH_BLOCK : end(block, 0, target);
    }

    int setBranch(int block, int register, int ifNotZero, int ifZero) {
        if (lacks(block) || lacks(ifNotZero) || lacks(ifZero)) {
            return NO_SUCH_BLOCK;
        }
        return within(0, register, 6) ? end(block, 1, register, ifNotZero, ifZero) : OUT_OF_RANGE;
    }

    int setReturn(int block, int register) {
        if (lacks(block)) {
            return NO_SUCH_BLOCK;
        }
        return within(0, register, 6) ? end(block, 2, register) : OUT_OF_RANGE;
    }

    int blockCount() {
        return blocks.size();
    }

    int instructionCount(int block) {
        return lacks(block) ? NO_SUCH_BLOCK : blocks.get(block).body().size();
    }

    /** Field 0 is the opcode, 1 d, 2 a, 3 b and 4 the line set. */
    private int field(int block, int index, int field) {
        if (lacks(block)) {
            return NO_SUCH_BLOCK;
        }
        if (!within(0, index, blocks.get(block).body().size() - 1)) {
            return NO_SUCH_INSTRUCTION;
        }
        Line line = blocks.get(block).body().get(index);
        Code code = line.code();
        return List.of(code.opcode(), code.d(), code.a(), code.b(), line.lines()).get(field);
    }

    int opcode(int block, int index) {
        return field(block, index, 0);
    }

    int destination(int block, int index) {
        return field(block, index, 1);
    }

    int operandA(int block, int index) {
        return field(block, index, 2);
    }

    int operandB(int block, int index) {
        return field(block, index, 3);
    }

    int lines(int block, int index) {
        return field(block, index, 4);
    }

    int terminatorKind(int block) {
        return lacks(block) ? NO_SUCH_BLOCK : blocks.get(block).end().get(0);
    }

    int terminatorOperand(int block, int index) {
        if (lacks(block)) {
            return NO_SUCH_BLOCK;
        }
        List<Integer> end = blocks.get(block).end();
        return within(0, index, end.size() - 2) ? end.get(index + 1) : NONE;
    }

    int tailHash(int block, int length) {
        if (lacks(block)) {
            return NO_SUCH_BLOCK;
        }
        Basic basic = blocks.get(block);
        if (!within(0, length, basic.body().size())) {
            return OUT_OF_RANGE;
        }
        List<Integer> numbers = new ArrayList<>();
        for (Code code : basic.codes(length)) {
            numbers.addAll(List.of(code.opcode(), code.d(), code.a(), code.b()));
        }
        numbers.addAll(basic.end());
        while (numbers.size() % 4 != 0) {
            numbers.add(0);
        }
        int h = 17;
        for (int x : numbers) {
            h = 31 * h + x;
        }
        return h & 0x7fffffff;
    }

    private List<Basic> members(int set) {
        List<Basic> members = new ArrayList<>();
        for (int block = 0; block < blocks.size(); block++) {
            if ((set & 1 << block) != 0) {
                members.add(blocks.get(block));
            }
        }
        return members;
    }

    private int common(int set) {
        List<Basic> members = members(set);
        if (members.stream().map(Basic::end).distinct().count() != 1) {
            return DIFFERENT;
        }
        int length = members.stream().mapToInt(basic -> basic.body().size()).min().orElseThrow();
        while (!allEqual(members, length)) {
            length--;
        }
        return length;
    }

    private static boolean allEqual(List<Basic> members, int length) {
        List<Code> first = members.get(0).codes(length);
        return members.stream().allMatch(basic -> basic.codes(length).equals(first));
    }

    private int pairError(int first, int second) {
        if (lacks(first) || lacks(second)) {
            return NO_SUCH_BLOCK;
        }
        return first == second ? OUT_OF_RANGE : 0;
    }

    int commonTail(int first, int second) {
        int error = pairError(first, second);
        return error != 0 ? error : common(1 << first | 1 << second);
    }

    int parameterTail(int first, int second) {
        int error = pairError(first, second);
        if (error != 0) {
            return error;
        }
        Basic one = blocks.get(first);
        Basic two = blocks.get(second);
        if (one.end().get(0) != 2 || !one.end().equals(two.end())) {
            return DIFFERENT;
        }
        for (int length = Math.min(one.body().size(), two.body().size()); length > 0; length--) {
            if (isParameterTail(one.codes(length), two.codes(length))) {
                return length;
            }
        }
        return DIFFERENT;
    }

    private static List<Integer> differences(List<Code> one, List<Code> two) {
        List<Integer> places = new ArrayList<>();
        for (int place = 0; place < one.size(); place++) {
            if (!one.get(place).equals(two.get(place))) {
                places.add(place);
            }
        }
        return places;
    }

    private static boolean isParameterTail(List<Code> one, List<Code> two) {
        List<Integer> places = differences(one, two);
        if (places.size() != 1) {
            return false;
        }
        Code a = one.get(places.get(0));
        Code b = two.get(places.get(0));
        if (a.opcode() != 0 || b.opcode() != 0 || a.d() != b.d()) {
            return false;
        }
        List<Code> all = new ArrayList<>(one);
        all.addAll(two);
        return all.stream().noneMatch(code -> code.reads(7) || code.writes(7));
    }

    int setJumpCost(int cost) {
        if (!within(0, cost, 5)) {
            return OUT_OF_RANGE;
        }
        int previous = jumpCost;
        jumpCost = cost;
        return previous;
    }

    private int cost(List<Integer> end) {
        return end.get(0) == 0 ? jumpCost : end.get(0) == 1 ? 2 : 1;
    }

    int codeSize() {
        return blocks.stream().mapToInt(basic -> basic.body().size() + cost(basic.end())).sum();
    }

    int tailSaving(int set) {
        if (set < 0 || set >= 1 << blocks.size()) {
            return NO_SUCH_BLOCK;
        }
        int m = members(set).size();
        if (m < 2) {
            return OUT_OF_RANGE;
        }
        int k = common(set);
        return k == DIFFERENT ? DIFFERENT : (m - 1) * (k + cost(members(set).get(0).end())) - m * jumpCost;
    }

    int bestTail() {
        int best = NONE;
        int bestSaving = 0;
        for (int set = 0; set < 1 << blocks.size(); set++) {
            int saving = tailSaving(set);
            if (saving > bestSaving) {
                best = set;
                bestSaving = saving;
            }
        }
        return best;
    }

    int mergeTail(int set) {
        int saving = tailSaving(set);
        if (saving == NO_SUCH_BLOCK || saving == OUT_OF_RANGE || saving == DIFFERENT) {
            return saving;
        }
        if (saving <= 0) {
            return NOT_PROFITABLE;
        }
        if (blocks.size() == 12) {
            return FULL;
        }
        int k = common(set);
        int created = blocks.size();
        blocks.add(united(members(set), k));
        for (int block = 0; block < created; block++) {
            if ((set & 1 << block) != 0) {
                blocks.set(block, new Basic(head(blocks.get(block), k), List.of(0, created)));
            }
        }
        return created;
    }

    private static List<Line> head(Basic basic, int k) {
        return new ArrayList<>(basic.body().subList(0, basic.body().size() - k));
    }

    /** The tail of the first member, with the united line sets of all. */
    private static Basic united(List<Basic> members, int k) {
        List<Line> body = new ArrayList<>();
        for (int place = 0; place < k; place++) {
            int lines = 0;
            for (Basic basic : members) {
                lines |= basic.tail(k).get(place).lines();
            }
            body.add(new Line(members.get(0).tail(k).get(place).code(), lines));
        }
        return new Basic(body, members.get(0).end());
    }

    int parameterSaving(int first, int second) {
        int k = parameterTail(first, second);
        return k < 0 ? k : k + 1 - 2 * jumpCost - 2;
    }

    int mergeWithParameter(int first, int second) {
        int k = parameterTail(first, second);
        if (k < 0) {
            return k;
        }
        if (blocks.size() == 12) {
            return FULL;
        }
        int created = blocks.size();
        Basic one = blocks.get(first);
        Basic two = blocks.get(second);
        int place = differences(one.codes(k), two.codes(k)).get(0);
        Basic shared = united(List.of(one, two), k);
        Line old = shared.body().get(place);
        shared.body().set(place, new Line(new Code(1, old.code().d(), 7, 0), old.lines()));
        blocks.add(shared);
        for (int block : new int[] {first, second}) {
            Line own = blocks.get(block).tail(k).get(place);
            List<Line> body = head(blocks.get(block), k);
            body.add(new Line(new Code(0, 7, own.code().a(), 0), own.lines()));
            blocks.set(block, new Basic(body, List.of(0, created)));
        }
        return created;
    }

    int mergeAll() {
        int merges = 0;
        while (blocks.size() < 12) {
            int best = bestTail();
            if (best == NONE) {
                break;
            }
            mergeTail(best);
            merges++;
        }
        return merges;
    }

    int setRegister(int register, int value) {
        if (!within(0, register, 6)) {
            return OUT_OF_RANGE;
        }
        initial[register] = value;
        return 1;
    }

    int run(int maxSteps) {
        if (!within(1, maxSteps, 1000)) {
            return OUT_OF_RANGE;
        }
        if (blocks.isEmpty()) {
            return NO_SUCH_BLOCK;
        }
        trace.clear();
        Arrays.fill(registers, 0);
        System.arraycopy(initial, 0, registers, 0, 7);
        int steps = 0;
        Basic at = blocks.get(0);
        while (true) {
            for (Line line : at.body()) {
                perform(line.code());
                if (++steps == maxSteps) {
                    return TIMEOUT;
                }
            }
            steps++;
            List<Integer> end = at.end();
            if (end.get(0) == 2) {
                return steps;
            }
            if (steps == maxSteps) {
                return TIMEOUT;
            }
            at = blocks.get(end.get(0) == 0 ? end.get(1) : registers[end.get(1)] != 0 ? end.get(2) : end.get(3));
        }
    }

    private void perform(Code code) {
        if (code.opcode() == 6) {
            trace.add(registers[code.a()]);
        } else {
            registers[code.d()] = result(code);
        }
    }

    private int result(Code code) {
        return switch (code.opcode()) {
            case 0 -> code.a();
            case 1 -> registers[code.a()];
            case 2 -> (int) ((long) registers[code.a()] + registers[code.b()]);
            case 3 -> (int) ((long) registers[code.a()] - registers[code.b()]);
            case 4 -> (int) ((long) registers[code.a()] * registers[code.b()]);
            default -> registers[code.a()] < registers[code.b()] ? 1 : 0;
        };
    }

    int traceLength() {
        return trace.size();
    }

    int trace(int index) {
        return within(0, index, trace.size() - 1) ? trace.get(index) : 0;
    }

    int register(int register) {
        return within(0, register, 7) ? registers[register] : 0;
    }

    int save(int slot) {
        if (!within(0, slot, 1)) {
            return OUT_OF_RANGE;
        }
        // Blocks are replaced and never changed, so a copy of the list is enough.
        slots[slot] = new State(List.copyOf(blocks), jumpCost, Arrays.stream(initial).boxed().toList());
        return 1;
    }

    int restore(int slot) {
        if (!within(0, slot, 1)) {
            return OUT_OF_RANGE;
        }
        State state = slots[slot];
        if (state == null) {
            return NOT_SAVED;
        }
        blocks.clear();
        blocks.addAll(state.blocks());
        jumpCost = state.jumpCost();
        for (int register = 0; register < 7; register++) {
            initial[register] = state.initial().get(register);
        }
        return 1;
    }
}
