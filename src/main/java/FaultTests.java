import java.util.NoSuchElementException;

/** Tests of logic circuits with unknown values; README.md says what the class is for. */
public final class FaultTests {
    public static final int SYNTAX_ERROR = -2;
    public static final int OUT_OF_RANGE = -3;
    public static final int REPEATED = -4;
    public static final int LOOP = -5;
    public static final int TOO_MANY = -6;

    private static final int MAX_BYTES = 800;
    private static final int BYTES_A_CALL = 20;
    private static final int MAX_INPUTS = 8;
    private static final int MAX_GATES = 16;
    private static final int MAX_WIRES = MAX_INPUTS + MAX_GATES;
    private static final int MAX_OPERANDS = 4;
    private static final int MAX_OUTPUTS = 6;
    private static final int MAX_BRIDGES = 8;
    private static final int MAX_FAULTS = 2 * MAX_WIRES + MAX_BRIDGES;
    private static final int MAX_TESTS = 16;
    private static final int MAX_CHANGES = 8;

    private static final int UNKNOWN = 2;
    /** Stands where a fault is asked for and the circuit has none. */
    private static final int NO_FAULT = -1;

    private static final int INPUT = -1;
    private static final int AND = 0;
    private static final int OR = 1;
    private static final int NAND = 2;
    private static final int NOR = 3;
    private static final int XOR = 4;
    private static final int XNOR = 5;
    private static final int NOT = 6;
    private static final int BUF = 7;
    private static final int MUX = 8;
    private static final int KINDS = 9;
    private static final int[] FEWEST_OPERANDS = {2, 2, 2, 2, 2, 2, 1, 1, 3};
    private static final int[] MOST_OPERANDS = {4, 4, 4, 4, 4, 4, 1, 1, 3};

    /** A row of lanes is a long: lane n is bit n, and each lane works out a test of its own. */
    private static final int LANES = 64;
    private static final int LANE_BITS = 6;
    private static final int MAX_FULL_TESTS = 1 << MAX_INPUTS;
    private static final int MAX_WORDS = MAX_FULL_TESTS / LANES;
    /** The lanes whose number has bit k, for k from 0. */
    private static final long[] LANES_WITH_BIT = {
        0xAAAAAAAAAAAAAAAAL, 0xCCCCCCCCCCCCCCCCL, 0xF0F0F0F0F0F0F0F0L,
        0xFF00FF00FF00FF00L, 0xFFFF0000FFFF0000L, 0xFFFFFFFF00000000L
    };
    /** One part for each way in which all outputs can be 0, 1 or unknown. */
    private static final int MAX_PARTS = 729;

    private final SetupReader reader = new SetupReader();
    private final Setup now = new Setup();
    private final History history = new History();

    private final Rows fullRows = new Rows(MAX_WORDS);
    private final Rows testRows = new Rows(1);
    private boolean fullRowsFresh = false;
    private boolean testRowsFresh = false;

    private final int[] fitting = new int[MAX_FAULTS + 1];
    private final int[] partSizes = new int[MAX_PARTS];
    private final long[] foundBy = new long[MAX_TESTS];
    private final long[] foundUpTo = new long[MAX_TESTS];
    private final long[] foundByFull = new long[MAX_FULL_TESTS];

    public FaultTests() {
    }

    public int append(int w0, int w1, int w2, int w3, int w4) {
        if (reader.textLength + BYTES_A_CALL > MAX_BYTES) {
            return -1;
        }
        reader.putBytes(w0);
        reader.putBytes(w1);
        reader.putBytes(w2);
        reader.putBytes(w3);
        reader.putBytes(w4);
        return reader.textLength;
    }

    public int load(int length) throws IllegalArgumentException {
        if (length < 0 || length > reader.textLength) {
            throw new IllegalArgumentException("length");
        }
        int error = reader.read(length);
        if (error != 0) {
            return error;
        }
        history.push(now);
        now.copyFrom(reader.setup);
        forgetRows();
        return now.circuit.wires;
    }

    public int errorOffset() {
        return reader.errorAt;
    }

    public int state(int what) throws IllegalArgumentException {
        switch (what) {
            case 0:
                return now.circuit.inputs;
            case 1:
                return now.circuit.wires;
            case 2:
                return now.circuit.outputs;
            case 3:
                return now.circuit.faultCount();
            case 4:
                return now.circuit.bridges;
            case 5:
                return now.tests.count;
            case 6:
                return now.tests.countSeen();
            case 7:
                return Long.bitCount(listFoundByTests());
            case 8:
                return now.circuit.greatestLevel();
            default:
                throw new IllegalArgumentException("what");
        }
    }

    public int wire(int wire, int what) throws IndexOutOfBoundsException, IllegalArgumentException {
        checkWire(wire);
        switch (what) {
            case 0:
                return now.circuit.kind[wire];
            case 1:
                return now.circuit.operandCount[wire];
            case 2:
                return now.circuit.level[wire];
            case 3:
                return now.circuit.uses[wire];
            case 4:
                return now.circuit.outputOf(wire);
            default:
                throw new IllegalArgumentException("what");
        }
    }

    public int operand(int wire, int k) throws IndexOutOfBoundsException, NoSuchElementException {
        checkWire(wire);
        if (k < 0 || k >= now.circuit.operandCount[wire]) {
            throw new NoSuchElementException("operand");
        }
        return now.circuit.operand[wire * MAX_OPERANDS + k];
    }

    public int value(int test, int wire) throws IndexOutOfBoundsException {
        checkTest(test);
        checkWire(wire);
        refreshTestRows();
        return testRows.good.lane(wire, test);
    }

    public int faulty(int test, int fault, int wire) throws IndexOutOfBoundsException {
        checkTest(test);
        checkFault(fault);
        checkWire(wire);
        refreshTestRows();
        testRows.bad.runFault(now.circuit, testRows.good, fault);
        return testRows.bad.lane(wire, test);
    }

    public int finds(int test, int fault) throws IndexOutOfBoundsException {
        checkTest(test);
        checkFault(fault);
        refreshTestRows();
        if (hasLane(testRows.apart(now.circuit, NO_FAULT, fault, 0), test)) {
            return 2;
        }
        return hasLane(testRows.blurred(now.circuit, fault, 0), test) ? 1 : 0;
    }

    public boolean tellsApart(int test, int fault, int other) throws IndexOutOfBoundsException {
        checkTest(test);
        checkFault(fault);
        checkFault(other);
        refreshTestRows();
        return hasLane(testRows.apart(now.circuit, fault, other, 0), test);
    }

    public int worth(int test) throws IndexOutOfBoundsException {
        checkTest(test);
        listFoundByTests();
        return Long.bitCount(foundBy[test]);
    }

    public int testFor(int fault) throws IndexOutOfBoundsException {
        checkFault(fault);
        refreshFullRows();
        return fullRows.firstApart(now.circuit, NO_FAULT, fault);
    }

    public int testBetween(int fault, int other) throws IndexOutOfBoundsException {
        checkFault(fault);
        checkFault(other);
        refreshFullRows();
        return fullRows.firstApart(now.circuit, fault, other);
    }

    public int hidden() {
        refreshFullRows();
        int faults = now.circuit.faultCount();
        int result = 0;
        for (int fault = 0; fault < faults; fault++) {
            if (fullRows.firstApart(now.circuit, NO_FAULT, fault) < 0) {
                result++;
            }
        }
        return result;
    }

    public int alike(int fault) throws IndexOutOfBoundsException {
        checkFault(fault);
        refreshFullRows();
        return firstAlike(fault);
    }

    public int classes() {
        refreshFullRows();
        int faults = now.circuit.faultCount();
        int result = 0;
        for (int fault = 0; fault < faults; fault++) {
            if (firstAlike(fault) == fault) {
                result++;
            }
        }
        return result;
    }

    public double coverage() {
        int findable = now.circuit.faultCount() - hidden();
        if (findable <= 0) {
            return 1.0;
        }
        int found = Long.bitCount(listFoundByTests());
        return (double) found / (double) findable;
    }

    public int leastSet() {
        long all = listFoundByTests();
        int tests = now.tests.count;
        long upTo = 0;
        for (int test = 0; test < tests; test++) {
            upTo |= foundBy[test];
            foundUpTo[test] = upTo;
        }
        for (int budget = 0; budget <= tests; budget++) {
            int set = smallestCover(foundBy, foundUpTo, tests - 1, all, budget);
            if (set >= 0) {
                return set;
            }
        }
        return 0;
    }

    public int suspects() {
        return listFitting();
    }

    public int suspect(int k) throws NoSuchElementException {
        int count = listFitting();
        if (k < 0 || k >= count) {
            throw new NoSuchElementException("suspect");
        }
        return fitting[k];
    }

    public int nextTest() {
        int count = listFitting();
        if (count < 2) {
            return -1;
        }
        int best = -1;
        int bestPart = 0;
        for (int test = 0; test < now.tests.count; test++) {
            int part = greatestPart(test, count);
            if (best < 0 || part < bestPart) {
                best = test;
                bestPart = part;
            }
        }
        return best;
    }

    public int addTest(int ones, int unknowns) throws IllegalArgumentException, IllegalStateException {
        if (!areInputs(ones) || !areInputs(unknowns) || (ones & unknowns) != 0) {
            throw new IllegalArgumentException("ones or unknowns");
        }
        if (now.tests.count >= MAX_TESTS) {
            throw new IllegalStateException("16 tests");
        }
        history.push(now);
        now.tests.put(ones, unknowns);
        testRowsFresh = false;
        return now.tests.count - 1;
    }

    public int removeTest(int test) throws IndexOutOfBoundsException {
        checkTest(test);
        history.push(now);
        now.tests.drop(test);
        testRowsFresh = false;
        return now.tests.count;
    }

    public int setKind(int wire, int kind) throws IndexOutOfBoundsException, IllegalArgumentException {
        checkWire(wire);
        int previous = now.circuit.kind[wire];
        if (previous == INPUT || kind < 0 || kind >= KINDS) {
            throw new IllegalArgumentException("no gate or no kind");
        }
        int operands = now.circuit.operandCount[wire];
        if (operands < FEWEST_OPERANDS[kind] || operands > MOST_OPERANDS[kind]) {
            throw new IllegalArgumentException("operands");
        }
        history.push(now);
        now.circuit.kind[wire] = kind;
        forgetRows();
        return previous;
    }

    public int see(int test, int output, int value) throws IndexOutOfBoundsException, IllegalArgumentException {
        checkTest(test);
        if (output < 0 || output >= now.circuit.outputs) {
            throw new IndexOutOfBoundsException("output");
        }
        if (value < 0 || value > UNKNOWN) {
            throw new IllegalArgumentException("value");
        }
        history.push(now);
        now.tests.note(test, output, value);
        return listFitting();
    }

    public int forget() {
        history.push(now);
        int count = now.tests.countSeen();
        now.tests.clearSeen();
        return count;
    }

    public int complete() {
        history.push(now);
        long open = ~listFoundByTests();
        listFoundByFull();
        int added = 0;
        for (int n = 0; n < MAX_TESTS && now.tests.count < MAX_TESTS; n++) {
            int best = bestFullTest(open);
            if (best < 0) {
                break;
            }
            now.tests.put(best, 0);
            open &= ~foundByFull[best];
            added++;
        }
        testRowsFresh = false;
        return added;
    }

    public int undo() {
        if (history.count == 0) {
            return -1;
        }
        history.pop(now);
        forgetRows();
        return history.count;
    }

    public long checksum() {
        long sum = 0;
        for (int what = 0; what <= 8; what++) {
            sum = 31 * sum + state(what);
        }
        sum = checksumOfWires(sum);
        sum = checksumOfTests(sum);
        return 31 * sum + listFitting();
    }

    private long checksumOfWires(long start) {
        long sum = start;
        for (int wire = 0; wire < now.circuit.wires; wire++) {
            for (int what = 0; what <= 4; what++) {
                sum = 31 * sum + wire(wire, what);
            }
            for (int k = 0; k < now.circuit.operandCount[wire]; k++) {
                sum = 31 * sum + now.circuit.operand[wire * MAX_OPERANDS + k];
            }
        }
        return sum;
    }

    private long checksumOfTests(long start) {
        listFoundByTests();
        long sum = start;
        for (int test = 0; test < now.tests.count; test++) {
            for (int wire = 0; wire < now.circuit.wires; wire++) {
                sum = 31 * sum + testRows.good.lane(wire, test);
            }
            for (int output = 0; output < now.circuit.outputs; output++) {
                sum = 31 * sum + now.tests.noted(test, output);
            }
            sum = 31 * sum + Long.bitCount(foundBy[test]);
        }
        return sum;
    }

    private void checkWire(int wire) {
        if (wire < 0 || wire >= now.circuit.wires) {
            throw new IndexOutOfBoundsException("wire");
        }
    }

    private void checkTest(int test) {
        if (test < 0 || test >= now.tests.count) {
            throw new IndexOutOfBoundsException("test");
        }
    }

    private void checkFault(int fault) {
        if (fault < 0 || fault >= now.circuit.faultCount()) {
            throw new IndexOutOfBoundsException("fault");
        }
    }

    /** Whether each bit of the sum stands for an input; a negative one has bits that do not. */
    private boolean areInputs(int sum) {
        return (sum >> now.circuit.inputs) == 0;
    }

    private static boolean hasLane(long row, int lane) {
        return ((row >>> lane) & 1) != 0;
    }

    private void forgetRows() {
        fullRowsFresh = false;
        testRowsFresh = false;
    }

    private void refreshFullRows() {
        if (fullRowsFresh) {
            return;
        }
        int words = now.circuit.fullWords();
        for (int word = 0; word < words; word++) {
            fullRows.good.setFullInputs(now.circuit.inputs, word);
            fullRows.work(now.circuit, word);
        }
        fullRowsFresh = true;
    }

    private void refreshTestRows() {
        if (testRowsFresh) {
            return;
        }
        testRows.good.setTestInputs(now.circuit.inputs, now.tests);
        testRows.work(now.circuit, 0);
        testRowsFresh = true;
    }

    /** Lists the faults that each test finds, and answers the set of those that at least one finds. */
    private long listFoundByTests() {
        refreshTestRows();
        return listFound(testRows, now.tests.count, foundBy);
    }

    private void listFoundByFull() {
        refreshFullRows();
        listFound(fullRows, 1 << now.circuit.inputs, foundByFull);
    }

    /**
     * For each of the tests in the first lanes the set of the faults that it finds: the sum of 2^k over its
     * faults k. Answers the set of those that at least one finds.
     */
    private long listFound(Rows rows, int lanes, long[] sets) {
        int faults = now.circuit.faultCount();
        long all = 0;
        for (int lane = 0; lane < lanes; lane++) {
            sets[lane] = 0;
        }
        for (int first = 0; first < lanes; first += LANES) {
            int lanesHere = Math.min(lanes - first, LANES);
            for (int fault = 0; fault < faults; fault++) {
                long finders = rows.apart(now.circuit, NO_FAULT, fault, first / LANES);
                for (int lane = 0; lane < lanesHere; lane++) {
                    long bit = ((finders >>> lane) & 1) << fault;
                    sets[first + lane] |= bit;
                    all |= bit;
                }
            }
        }
        return all;
    }

    private int firstAlike(int fault) {
        for (int other = 0; other < fault; other++) {
            if (fullRows.firstApart(now.circuit, fault, other) < 0) {
                return other;
            }
        }
        return fault;
    }

    /**
     * The smallest set of at most budget of the tests 0 to top that finds all that is missing, or -1.
     * Leaving out the higher test first makes the first set found the one with the smallest number.
     */
    private static int smallestCover(long[] found, long[] upTo, int top, long missing, int budget) {
        if (missing == 0) {
            return 0;
        }
        if (top < 0 || top >= MAX_TESTS || budget <= 0 || (missing & ~upTo[top]) != 0) {
            return -1;
        }
        int without = smallestCover(found, upTo, top - 1, missing, budget);
        if (without >= 0 || (missing & found[top]) == 0) {
            return without;
        }
        int with = smallestCover(found, upTo, top - 1, missing & ~found[top], budget - 1);
        return with < 0 ? -1 : with | (1 << top);
    }

    /** Fills the row of those that fit, and answers how many they are. */
    private int listFitting() {
        refreshTestRows();
        int faults = now.circuit.faultCount();
        int count = 0;
        for (int fault = NO_FAULT; fault < faults; fault++) {
            if (fits(fault)) {
                fitting[count] = fault;
                count++;
            }
        }
        return count;
    }

    private boolean fits(int fault) {
        for (int output = 0; output < now.circuit.outputs; output++) {
            int row = testRows.rowOf(fault, output, 0);
            long against = (now.tests.seenZero[output] & testRows.one[row])
                    | (now.tests.seenOne[output] & testRows.zero[row]);
            if (against != 0) {
                return false;
            }
        }
        return true;
    }

    /** The size of the greatest part into which the test divides the first count of those that fit. */
    private int greatestPart(int test, int count) {
        int greatest = 0;
        for (int k = 0; k < count; k++) {
            int part = testRows.partOf(now.circuit, fitting[k], test);
            partSizes[part]++;
            greatest = Math.max(greatest, partSizes[part]);
        }
        for (int k = 0; k < count; k++) {
            partSizes[testRows.partOf(now.circuit, fitting[k], test)] = 0;
        }
        return greatest;
    }

    /** The full test that finds the most of the open faults, or -1 if none finds any. */
    private int bestFullTest(long open) {
        int fullTests = 1 << now.circuit.inputs;
        int best = -1;
        int most = 0;
        for (int test = 0; test < fullTests; test++) {
            int gain = Long.bitCount(foundByFull[test] & open);
            if (gain > most) {
                best = test;
                most = gain;
            }
        }
        return best;
    }

    /** The wires, outputs and bridges. A set of wires is the sum of 2^k over its wires k. */
    private static final class Circuit {
        int inputs;
        int wires;
        int outputs;
        int bridges;
        final int[] kind = new int[MAX_WIRES];
        final int[] operandCount = new int[MAX_WIRES];
        final int[] operand = new int[MAX_WIRES * MAX_OPERANDS];
        final int[] level = new int[MAX_WIRES];
        final int[] uses = new int[MAX_WIRES];
        /** The set of the wires on which a wire depends. */
        final int[] below = new int[MAX_WIRES];
        final int[] outputWire = new int[MAX_OUTPUTS];
        final int[] bridgeFirst = new int[MAX_BRIDGES];
        final int[] bridgeSecond = new int[MAX_BRIDGES];
        final int[] bridgeKind = new int[MAX_BRIDGES];

        Circuit() {
            clear(1);
        }

        void clear(int inputCount) {
            inputs = inputCount;
            wires = inputCount;
            outputs = 0;
            bridges = 0;
            for (int wire = 0; wire < MAX_WIRES; wire++) {
                kind[wire] = INPUT;
                operandCount[wire] = 0;
                level[wire] = 0;
                uses[wire] = 0;
                below[wire] = 0;
            }
        }

        void copyFrom(Circuit from) {
            inputs = from.inputs;
            wires = from.wires;
            outputs = from.outputs;
            bridges = from.bridges;
            System.arraycopy(from.kind, 0, kind, 0, MAX_WIRES);
            System.arraycopy(from.operandCount, 0, operandCount, 0, MAX_WIRES);
            System.arraycopy(from.operand, 0, operand, 0, MAX_WIRES * MAX_OPERANDS);
            System.arraycopy(from.level, 0, level, 0, MAX_WIRES);
            System.arraycopy(from.uses, 0, uses, 0, MAX_WIRES);
            System.arraycopy(from.below, 0, below, 0, MAX_WIRES);
            System.arraycopy(from.outputWire, 0, outputWire, 0, MAX_OUTPUTS);
            System.arraycopy(from.bridgeFirst, 0, bridgeFirst, 0, MAX_BRIDGES);
            System.arraycopy(from.bridgeSecond, 0, bridgeSecond, 0, MAX_BRIDGES);
            System.arraycopy(from.bridgeKind, 0, bridgeKind, 0, MAX_BRIDGES);
        }

        boolean isFullOfGates() {
            return wires - inputs >= MAX_GATES;
        }

        boolean isFullOfOutputs() {
            return outputs >= MAX_OUTPUTS;
        }

        boolean isFullOfBridges() {
            return bridges >= MAX_BRIDGES;
        }

        void startGate(int gateKind) {
            kind[wires] = gateKind;
            operandCount[wires] = 0;
        }

        /** An operand of the gate that was started, which is no wire yet. */
        void putOperand(int from) {
            operand[wires * MAX_OPERANDS + operandCount[wires]] = from;
            operandCount[wires]++;
        }

        void endGate() {
            int gate = wires;
            wires++;
            for (int k = 0; k < operandCount[gate]; k++) {
                int from = operand[gate * MAX_OPERANDS + k];
                uses[from]++;
                level[gate] = Math.max(level[gate], level[from] + 1);
                below[gate] |= below[from] | (1 << from);
            }
        }

        void putOutput(int wire) {
            outputWire[outputs] = wire;
            outputs++;
        }

        void putBridge(int bridge, int first, int second) {
            bridgeKind[bridges] = bridge;
            bridgeFirst[bridges] = first;
            bridgeSecond[bridges] = second;
            bridges++;
        }

        boolean wouldLoop(int first, int second) {
            return first == second || hasBit(below[first], second) || hasBit(below[second], first);
        }

        int faultCount() {
            return 2 * wires + bridges;
        }

        int greatestLevel() {
            int greatest = 0;
            for (int wire = 0; wire < wires; wire++) {
                greatest = Math.max(greatest, level[wire]);
            }
            return greatest;
        }

        int outputOf(int wire) {
            for (int output = 0; output < outputs; output++) {
                if (outputWire[output] == wire) {
                    return output;
                }
            }
            return -1;
        }

        /** How many words of lanes the full tests need. */
        int fullWords() {
            return inputs <= LANE_BITS ? 1 : 1 << (inputs - LANE_BITS);
        }

        static boolean hasBit(int set, int bit) {
            return ((set >>> bit) & 1) != 0;
        }
    }

    /** The tests, and what was seen for them: for each output the set of tests with 0, and with 1. */
    private static final class TestList {
        int count = 0;
        final int[] ones = new int[MAX_TESTS];
        final int[] unknowns = new int[MAX_TESTS];
        final int[] seenZero = new int[MAX_OUTPUTS];
        final int[] seenOne = new int[MAX_OUTPUTS];

        void clear() {
            count = 0;
            clearSeen();
        }

        void clearSeen() {
            for (int output = 0; output < MAX_OUTPUTS; output++) {
                seenZero[output] = 0;
                seenOne[output] = 0;
            }
        }

        void copyFrom(TestList from) {
            count = from.count;
            System.arraycopy(from.ones, 0, ones, 0, MAX_TESTS);
            System.arraycopy(from.unknowns, 0, unknowns, 0, MAX_TESTS);
            System.arraycopy(from.seenZero, 0, seenZero, 0, MAX_OUTPUTS);
            System.arraycopy(from.seenOne, 0, seenOne, 0, MAX_OUTPUTS);
        }

        boolean isFull() {
            return count >= MAX_TESTS;
        }

        void put(int testOnes, int testUnknowns) {
            ones[count] = testOnes;
            unknowns[count] = testUnknowns;
            count++;
        }

        void drop(int test) {
            for (int later = test + 1; later < count; later++) {
                ones[later - 1] = ones[later];
                unknowns[later - 1] = unknowns[later];
            }
            for (int output = 0; output < MAX_OUTPUTS; output++) {
                seenZero[output] = withoutBit(seenZero[output], test);
                seenOne[output] = withoutBit(seenOne[output], test);
            }
            count--;
        }

        /** The set with the later tests moved down over this one. */
        static int withoutBit(int set, int test) {
            int lower = (1 << test) - 1;
            return (set & lower) | ((set >>> 1) & ~lower);
        }

        void note(int test, int output, int seenValue) {
            int bit = 1 << test;
            seenZero[output] &= ~bit;
            seenOne[output] &= ~bit;
            if (seenValue == 0) {
                seenZero[output] |= bit;
            } else if (seenValue == 1) {
                seenOne[output] |= bit;
            }
        }

        int noted(int test, int output) {
            if (Circuit.hasBit(seenZero[output], test)) {
                return 0;
            }
            return Circuit.hasBit(seenOne[output], test) ? 1 : UNKNOWN;
        }

        int countSeen() {
            int seen = 0;
            for (int output = 0; output < MAX_OUTPUTS; output++) {
                seen += Integer.bitCount(seenZero[output]) + Integer.bitCount(seenOne[output]);
            }
            return seen;
        }
    }

    /** All data that a change changes and undo brings back. */
    private static final class Setup {
        final Circuit circuit = new Circuit();
        final TestList tests = new TestList();

        void clear(int inputs) {
            circuit.clear(inputs);
            tests.clear();
        }

        void copyFrom(Setup from) {
            circuit.copyFrom(from.circuit);
            tests.copyFrom(from.tests);
        }
    }

    /** The data before each of the latest changes, in a ring. */
    private static final class History {
        int count = 0;
        private int next = 0;
        private final Setup[] ring = new Setup[MAX_CHANGES];

        History() {
            for (int k = 0; k < MAX_CHANGES; k++) {
                ring[k] = new Setup();
            }
        }

        void push(Setup before) {
            ring[next].copyFrom(before);
            next = (next + 1) % MAX_CHANGES;
            count = Math.min(count + 1, MAX_CHANGES);
        }

        void pop(Setup into) {
            next = (next + MAX_CHANGES - 1) % MAX_CHANGES;
            into.copyFrom(ring[next]);
            count--;
        }
    }

    /** Reads a setup text; each error is met at its own token, so the first one met is the first of the text. */
    private static final class SetupReader {
        private static final int END = 0;
        private static final int WORD = 1;
        private static final int NUMBER = 2;
        private static final int SEMICOLON = 3;
        private static final int STRAY_BYTE = 4;
        /** Above every allowed number, and a further digit does not overflow it. */
        private static final int HUGE = 100000;

        /** What the latest text says; half of it, if the text has an error. */
        final Setup setup = new Setup();
        int textLength = 0;
        int errorAt = -1;
        private final int[] text = new int[MAX_BYTES];
        private int error = 0;
        /** Where the part of the text that is read ends. */
        private int end = 0;
        private int position = 0;
        private int token = END;
        private int tokenStart = 0;
        private int number = 0;

        void putBytes(int word) {
            for (int shift = 24; shift >= 0 && textLength < MAX_BYTES; shift -= 8) {
                text[textLength] = (word >>> shift) & 255;
                textLength++;
            }
        }

        /** Reads the first bytes and empties the text; answers 0, or the code of the first error. */
        int read(int byteCount) {
            end = Math.min(byteCount, textLength);
            textLength = 0;
            position = 0;
            error = 0;
            errorAt = -1;
            setup.clear(1);
            advance();
            boolean good = readCircuit();
            for (int n = 0; n < MAX_BYTES && good && token != END; n++) {
                good = readStatement();
            }
            return error;
        }

        private boolean fail(int code) {
            error = code;
            errorAt = tokenStart;
            return false;
        }

        private boolean readCircuit() {
            if (!isWord("circuit")) {
                return fail(SYNTAX_ERROR);
            }
            advance();
            if (token != NUMBER) {
                return fail(SYNTAX_ERROR);
            }
            if (number < 1 || number > MAX_INPUTS) {
                return fail(OUT_OF_RANGE);
            }
            setup.clear(number);
            advance();
            return readSemicolon();
        }

        private boolean readStatement() {
            if (isWord("gate")) {
                return readGate();
            }
            if (isWord("output")) {
                return readOutputs();
            }
            if (isWord("bridge")) {
                return readBridge();
            }
            if (isWord("test")) {
                return readTest();
            }
            return fail(SYNTAX_ERROR);
        }

        private boolean readSemicolon() {
            if (token != SEMICOLON) {
                return fail(SYNTAX_ERROR);
            }
            advance();
            return true;
        }

        private boolean readGate() {
            Circuit circuit = setup.circuit;
            if (circuit.isFullOfGates()) {
                return fail(TOO_MANY);
            }
            advance();
            int kind = kindOfWord();
            if (kind < 0) {
                return fail(SYNTAX_ERROR);
            }
            circuit.startGate(kind);
            advance();
            int count = 0;
            for (int k = 0; k < MOST_OPERANDS[kind] && token == NUMBER; k++) {
                if (number >= circuit.wires) {
                    return fail(OUT_OF_RANGE);
                }
                circuit.putOperand(number);
                count++;
                advance();
            }
            if (count < FEWEST_OPERANDS[kind]) {
                return fail(SYNTAX_ERROR);
            }
            circuit.endGate();
            return readSemicolon();
        }

        private boolean readOutputs() {
            Circuit circuit = setup.circuit;
            advance();
            if (token != NUMBER) {
                return fail(SYNTAX_ERROR);
            }
            for (int k = 0; k <= MAX_OUTPUTS && token == NUMBER; k++) {
                if (number >= circuit.wires) {
                    return fail(OUT_OF_RANGE);
                }
                if (circuit.outputOf(number) >= 0) {
                    return fail(REPEATED);
                }
                if (circuit.isFullOfOutputs()) {
                    return fail(TOO_MANY);
                }
                circuit.putOutput(number);
                advance();
            }
            return readSemicolon();
        }

        private boolean readBridge() {
            Circuit circuit = setup.circuit;
            if (circuit.isFullOfBridges()) {
                return fail(TOO_MANY);
            }
            advance();
            int kind = kindOfWord();
            if (kind != AND && kind != OR) {
                return fail(SYNTAX_ERROR);
            }
            advance();
            if (!isKnownWire()) {
                return false;
            }
            int first = number;
            advance();
            if (!isKnownWire()) {
                return false;
            }
            if (circuit.wouldLoop(first, number)) {
                return fail(LOOP);
            }
            circuit.putBridge(kind, first, number);
            advance();
            return readSemicolon();
        }

        private boolean isKnownWire() {
            if (token != NUMBER) {
                return fail(SYNTAX_ERROR);
            }
            if (number >= setup.circuit.wires) {
                return fail(OUT_OF_RANGE);
            }
            return true;
        }

        private boolean readTest() {
            if (setup.tests.isFull()) {
                return fail(TOO_MANY);
            }
            advance();
            int ones = 0;
            int unknowns = 0;
            for (int input = 0; input < setup.circuit.inputs; input++) {
                if (isWord("x")) {
                    unknowns |= 1 << input;
                } else if (token != NUMBER) {
                    return fail(SYNTAX_ERROR);
                } else if (number > 1) {
                    return fail(OUT_OF_RANGE);
                } else {
                    ones |= number << input;
                }
                advance();
            }
            setup.tests.put(ones, unknowns);
            return readSemicolon();
        }

        private int kindOfWord() {
            if (isWord("and")) {
                return AND;
            }
            if (isWord("or")) {
                return OR;
            }
            if (isWord("nand")) {
                return NAND;
            }
            if (isWord("nor")) {
                return NOR;
            }
            if (isWord("xor")) {
                return XOR;
            }
            if (isWord("xnor")) {
                return XNOR;
            }
            if (isWord("not")) {
                return NOT;
            }
            if (isWord("buf")) {
                return BUF;
            }
            return isWord("mux") ? MUX : -1;
        }

        private boolean isWord(String word) {
            if (token != WORD || position - tokenStart != word.length()) {
                return false;
            }
            for (int k = 0; k < word.length() && tokenStart + k < end; k++) {
                if (text[tokenStart + k] != word.charAt(k)) {
                    return false;
                }
            }
            return true;
        }

        /** Goes on to the next token; position is behind it then. */
        private void advance() {
            while (position < end && text[position] == ' ') {
                position++;
            }
            tokenStart = position;
            number = 0;
            if (position >= end) {
                token = END;
            } else if (isDigit(text[position])) {
                token = NUMBER;
                while (position < end && isDigit(text[position])) {
                    number = Math.min(HUGE, number * 10 + text[position] - '0');
                    position++;
                }
            } else if (isLetter(text[position])) {
                token = WORD;
                while (position < end && isLetter(text[position])) {
                    position++;
                }
            } else {
                token = text[position] == ';' ? SEMICOLON : STRAY_BYTE;
                position++;
            }
        }

        private static boolean isDigit(int sign) {
            return sign >= '0' && sign <= '9';
        }

        private static boolean isLetter(int sign) {
            return sign >= 'a' && sign <= 'z';
        }
    }

    /** For each wire the lanes in which it is known to be 0, and to be 1. */
    private static final class Lanes {
        final long[] zero = new long[MAX_WIRES];
        final long[] one = new long[MAX_WIRES];

        int lane(int wire, int lane) {
            if (hasLane(zero[wire], lane)) {
                return 0;
            }
            return hasLane(one[wire], lane) ? 1 : UNKNOWN;
        }

        /** Lane n of a word is the full test with number 64 * word + n, or repeats one if there are fewer. */
        void setFullInputs(int inputs, int word) {
            for (int input = 0; input < inputs; input++) {
                if (input < LANE_BITS) {
                    one[input] = LANES_WITH_BIT[input];
                } else {
                    one[input] = Circuit.hasBit(word, input - LANE_BITS) ? -1L : 0L;
                }
                zero[input] = ~one[input];
            }
        }

        /** Lane n is test n; the other lanes have unknown inputs. */
        void setTestInputs(int inputs, TestList tests) {
            for (int input = 0; input < inputs; input++) {
                zero[input] = 0;
                one[input] = 0;
                for (int test = 0; test < tests.count; test++) {
                    if (Circuit.hasBit(tests.ones[test], input)) {
                        one[input] |= 1L << test;
                    } else if (!Circuit.hasBit(tests.unknowns[test], input)) {
                        zero[input] |= 1L << test;
                    }
                }
            }
        }

        void runGates(Circuit circuit) {
            for (int wire = circuit.inputs; wire < circuit.wires; wire++) {
                runGate(circuit, wire);
            }
        }

        void runFault(Circuit circuit, Lanes good, int fault) {
            int sites = setSites(circuit, good, fault);
            for (int wire = 0; wire < circuit.wires; wire++) {
                if (Circuit.hasBit(sites, wire)) {
                    continue;
                }
                if ((circuit.below[wire] & sites) != 0) {
                    runGate(circuit, wire);
                } else {
                    zero[wire] = good.zero[wire];
                    one[wire] = good.one[wire];
                }
            }
        }

        /** Gives the wires at the fault their value, and answers the set of them. */
        private int setSites(Circuit circuit, Lanes good, int fault) {
            int bridge = fault - 2 * circuit.wires;
            if (bridge < 0) {
                int wire = fault >> 1;
                one[wire] = (fault & 1) != 0 ? -1L : 0L;
                zero[wire] = ~one[wire];
                return 1 << wire;
            }
            int first = circuit.bridgeFirst[bridge];
            int second = circuit.bridgeSecond[bridge];
            if (circuit.bridgeKind[bridge] == AND) {
                zero[first] = good.zero[first] | good.zero[second];
                one[first] = good.one[first] & good.one[second];
            } else {
                zero[first] = good.zero[first] & good.zero[second];
                one[first] = good.one[first] | good.one[second];
            }
            zero[second] = zero[first];
            one[second] = one[first];
            return (1 << first) | (1 << second);
        }

        private void runGate(Circuit circuit, int gate) {
            int kind = circuit.kind[gate];
            int start = gate * MAX_OPERANDS;
            if (kind == MUX) {
                int choice = circuit.operand[start];
                int ifZero = circuit.operand[start + 1];
                int ifOne = circuit.operand[start + 2];
                zero[gate] = (zero[choice] & zero[ifZero]) | (one[choice] & zero[ifOne]) | (zero[ifZero] & zero[ifOne]);
                one[gate] = (zero[choice] & one[ifZero]) | (one[choice] & one[ifOne]) | (one[ifZero] & one[ifOne]);
                return;
            }
            long isZero = zero[circuit.operand[start]];
            long isOne = one[circuit.operand[start]];
            for (int k = 1; k < circuit.operandCount[gate]; k++) {
                long nextZero = zero[circuit.operand[start + k]];
                long nextOne = one[circuit.operand[start + k]];
                if (kind == AND || kind == NAND) {
                    isZero |= nextZero;
                    isOne &= nextOne;
                } else if (kind == OR || kind == NOR) {
                    isZero &= nextZero;
                    isOne |= nextOne;
                } else {
                    long odd = (isZero & nextOne) | (isOne & nextZero);
                    isZero = (isZero & nextZero) | (isOne & nextOne);
                    isOne = odd;
                }
            }
            boolean inverts = kind == NAND || kind == NOR || kind == XNOR || kind == NOT;
            zero[gate] = inverts ? isOne : isZero;
            one[gate] = inverts ? isZero : isOne;
        }
    }

    /** The values of all outputs without a fault and with each one, in words of lanes. */
    private static final class Rows {
        final Lanes good = new Lanes();
        final Lanes bad = new Lanes();
        final long[] zero;
        final long[] one;
        private final int words;

        Rows(int maxWords) {
            words = maxWords;
            zero = new long[(MAX_FAULTS + 1) * MAX_OUTPUTS * maxWords];
            one = new long[(MAX_FAULTS + 1) * MAX_OUTPUTS * maxWords];
        }

        int rowOf(int fault, int output, int word) {
            return ((fault + 1) * MAX_OUTPUTS + output) * words + word;
        }

        /** Works out a word from the inputs that the lanes without a fault have. */
        void work(Circuit circuit, int word) {
            int faults = circuit.faultCount();
            good.runGates(circuit);
            store(circuit, good, NO_FAULT, word);
            for (int fault = 0; fault < faults; fault++) {
                bad.runFault(circuit, good, fault);
                store(circuit, bad, fault, word);
            }
        }

        private void store(Circuit circuit, Lanes lanes, int fault, int word) {
            for (int output = 0; output < circuit.outputs; output++) {
                int row = rowOf(fault, output, word);
                zero[row] = lanes.zero[circuit.outputWire[output]];
                one[row] = lanes.one[circuit.outputWire[output]];
            }
        }

        /** The lanes in which an output has known values with both faults, which are not the same. */
        long apart(Circuit circuit, int fault, int other, int word) {
            long lanes = 0;
            for (int output = 0; output < circuit.outputs; output++) {
                int row = rowOf(fault, output, word);
                int otherRow = rowOf(other, output, word);
                lanes |= (zero[row] & one[otherRow]) | (one[row] & zero[otherRow]);
            }
            return lanes;
        }

        /** The lanes in which an output is known without the fault and unknown with it. */
        long blurred(Circuit circuit, int fault, int word) {
            long lanes = 0;
            for (int output = 0; output < circuit.outputs; output++) {
                int row = rowOf(fault, output, word);
                int goodRow = rowOf(NO_FAULT, output, word);
                lanes |= (zero[goodRow] | one[goodRow]) & ~(zero[row] | one[row]);
            }
            return lanes;
        }

        /** The smallest number of a full test that tells both apart, or -1. */
        int firstApart(Circuit circuit, int fault, int other) {
            int used = Math.min(circuit.fullWords(), words);
            for (int word = 0; word < used; word++) {
                long lanes = apart(circuit, fault, other, word);
                if (lanes != 0) {
                    return word * LANES + Long.bitCount((lanes & -lanes) - 1);
                }
            }
            return -1;
        }

        /** The values of all outputs in one lane, as one number. */
        int partOf(Circuit circuit, int fault, int lane) {
            int part = 0;
            for (int output = 0; output < circuit.outputs; output++) {
                int row = rowOf(fault, output, 0);
                int digit = hasLane(zero[row], lane) ? 0 : hasLane(one[row], lane) ? 1 : UNKNOWN;
                part = part * 3 + digit;
            }
            return part;
        }
    }
}
