import java.math.BigInteger;

/** Each sentence of the promises 1 to 30 that names a boundary case has a test of its own here. */
public final class BoundaryPromisesTest extends Checks {
    private static final String[] KINDS = {"and", "or", "nand", "nor", "xor", "xnor", "not", "buf", "mux"};
    /** Eight inputs and one output that is 1 if all of them are. */
    private static final String ALL_ONES = "circuit 8;gate and 0 1 2 3;gate and 4 5 6 7;gate and 8 9;output 10;";
    /** An output that is always 1. */
    private static final String CONSTANT = "circuit 1;gate not 0;gate or 0 1;output 2;";

    public static void main(String[] args) {
        newObject();
        append();
        appendTooMuch();
        load();
        loadErrors();
        loadLength();
        errorOffset();
        state();
        stateCounts();
        wire();
        wireCounts();
        operand();
        value();
        faulty();
        finds();
        tellsApart();
        worth();
        testFor();
        testBetween();
        hidden();
        alike();
        classes();
        coverage();
        leastSet();
        suspects();
        suspect();
        nextTest();
        nextTestTies();
        addTest();
        addTestRefused();
        removeTest();
        removeTestSeen();
        setKind();
        setKindRefused();
        see();
        seeRefused();
        forget();
        complete();
        completeFull();
        completeChoice();
        undo();
        undoKeeps();
        checksum();
        checksumParts();
        finish();
    }

    /** Two inputs and one and: faults 0, 2 and 4 make it 0, the faults 1, 3 and 5 are all different. */
    private static FaultTests and() {
        return of("circuit 2;gate and 0 1;output 2;test 1 1;test 0 1;");
    }

    /** Indexes that are not below the count. */
    private static int[] wrong(int count) {
        return new int[] {-1, count, count + 1, Integer.MIN_VALUE, Integer.MAX_VALUE};
    }

    /** 20 spaces, or one other byte among them at this index. */
    private static int stray(FaultTests x, int index, int sign) {
        int[] w = new int[5];
        for (int k = 0; k < 20; k++) {
            w[k / 4] |= (k == index ? sign : 32) << (24 - 8 * (k % 4));
        }
        return x.append(w[0], w[1], w[2], w[3], w[4]);
    }

    private static void newObject() {
        sentence("Promise 1: Creates an object with a circuit of one input, with an empty input buffer.", () -> {
            FaultTests x = new FaultTests();
            int[] states = {1, 1, 0, 2, 0, 0, 0, 0, 0};
            for (int what = 0; what < 9; what++) {
                same(states[what], x.state(what));
            }
            int[] wire = {-1, 0, 0, 0, -1};
            for (int what = 0; what < 5; what++) {
                same(wire[what], x.wire(0, what));
            }
            due(ILLEGAL, () -> x.load(1));
            same(20, stray(x, 0, 'A'));
            due(ILLEGAL, () -> x.load(21));
            same(SYNTAX, x.load(20));
        });
    }

    private static void append() {
        sentence("Promise 2: Appends 20 bytes to the input buffer: the 4 bytes of each argument, the most significant "
                + "byte first.", () -> {
            for (int index = 0; index < 20; index++) {
                for (int sign : new int[] {0, 1, 127, 128, 255}) {
                    FaultTests x = new FaultTests();
                    stray(x, index, sign);
                    stray(x, 19 - index, sign);
                    same(SYNTAX, x.load(40));
                    same(index, x.errorOffset());
                }
            }
            FaultTests y = new FaultTests();
            y.append(0x63697263, 0x75697420, 0x333b6f75, 0x74707574, 0x30203120);
            same(40, y.append(0x323b7465, 0x7374202d, -1, Integer.MIN_VALUE, Integer.MAX_VALUE));
            same(SYNTAX, y.load(40));
            same(27, y.errorOffset());
        });
    }

    private static void appendTooMuch() {
        sentence("Promise 2: Returns the new length of the buffer; -1 if it would exceed 800 bytes, and the buffer is "
                + "unchanged then.", () -> {
            FaultTests x = new FaultTests();
            for (int length = 20; length <= 800; length += 20) {
                same(length, length == 800 ? stray(x, 19, 'A') : stray(x, 20, 0));
            }
            for (int n = 0; n < 3; n++) {
                same(-1, stray(x, n, 'B'));
            }
            due(ILLEGAL, () -> x.load(801));
            due(ILLEGAL, () -> x.load(820));
            same(SYNTAX, x.load(800));
            same(799, x.errorOffset());
            same(20, stray(x, 20, 0));
        });
    }

    private static void load() {
        sentence("Promise 3: Reads the first bytes of the input buffer as a setup text.", () -> {
            FaultTests x = new FaultTests();
            put(x, "circuit 2;output 1;?");
            same(2, x.load(19));
            same(1, x.state(2));
            put(x, "circuit 2;output 1;?");
            same(2, x.load(10));
            same(0, x.state(2));
            put(x, "circuit 2;output 1;?");
            same(SYNTAX, x.load(20));
            same(19, x.errorOffset());
            put(x, "circuit 12;");
            same(SYNTAX, x.load(9));
            same(9, x.errorOffset());
            put(x, "circuit 1;test");
            same(SYNTAX, x.load(13));
            same(10, x.errorOffset());
            put(x, "circuit 1;testx;");
            same(SYNTAX, x.load(14));
            same(14, x.errorOffset());
        });
        sentence("Promise 3: and replaces all data by it; nothing was seen.", () -> {
            FaultTests x = of(Circuits.FULL);
            x.see(0, 0, 1);
            x.see(15, 5, 0);
            same(24, read(x, Circuits.FULL));
            same(0, x.state(6));
            same(57, x.suspects());
            same(1, read(x, "circuit 1;"));
            int[] states = {1, 1, 0, 2, 0, 0, 0, 0, 0};
            for (int what = 0; what < 9; what++) {
                same(states[what], x.state(what));
            }
            same(0, x.wire(0, 3));
            same(-1, x.wire(0, 4));
        });
        sentence("Promise 3: and replaces all data by it (also if all was asked before)", () -> {
            FaultTests x = of(ALL_ONES + "test 1 1 1 1 1 1 1 1;");
            same(11, x.state(7));
            same(255, x.testFor(0));
            same(0, x.hidden());
            same(3, read(x, CONSTANT + "test 1;"));
            same(1, x.state(7));
            same(-1, x.testFor(0));
            same(-1, x.testFor(5));
            same(4, x.hidden());
            same(11, read(x, ALL_ONES));
            same(255, x.testFor(0));
            same(0, x.testFor(21));
        });
        sentence("Promise 3: Returns the number of wires.", () -> {
            fine(1, "circuit 1;");
            fine(24, Circuits.FULL);
        });
    }

    private static void loadErrors() {
        sentence("Promise 3: The input buffer is empty afterwards, also if the text has an error.", () -> {
            FaultTests x = new FaultTests();
            for (String text : new String[] {"circuit 2;", "circuit 0;", "circuit 2;?", "circuit 2"}) {
                put(x, text);
                x.load(text.length());
                due(ILLEGAL, () -> x.load(1));
                same(20, stray(x, 20, 0));
                same(SYNTAX, x.load(0));
                due(ILLEGAL, () -> x.load(20));
            }
        });
        sentence("Promise 3: An error leaves all other data unchanged.", () -> {
            FaultTests x = of("circuit 3;gate mux 0 1 2;output 3 0;bridge or 1 2;test 1 0 x;");
            x.see(0, 0, 1);
            long before = x.checksum();
            String late = "circuit 8;gate and 0 1;gate not 8;output 9 7 6;bridge and 0 1;test 0 0 0 0 0 0 0 0;";
            for (String end : new String[] {"?", "gate and 0 8;output 9;", "bridge or 0 9;", "test 1;"}) {
                due(true, () -> read(x, late + end) < 0);
                same(before, x.checksum());
                same(2, x.faulty(0, 8, 1));
            }
            same(1, x.undo());
            same(0, x.undo());
        });
        sentence("Promise 3: An empty text has a SYNTAX_ERROR.", () -> {
            FaultTests x = new FaultTests();
            same(SYNTAX, x.load(0));
            same(0, x.errorOffset());
            put(x, "circuit 2;");
            same(SYNTAX, x.load(0));
            same(0, x.errorOffset());
            same(1, x.state(0));
        });
        sentence("Promise 3: or the error code of the first error", () -> {
            errorAt(RANGE, "circuit 2;gate and 0 ^2;output 0 0;bridge and 0 0;?");
            errorAt(REPEATED, "circuit 2;output 0 ^0;bridge and 0 0;gate and 0 2;?");
            errorAt(LOOP, "circuit 2;bridge and 0 ^0;output 0 0;gate and 0 2;?");
            errorAt(SYNTAX, "circuit 2;^?bridge and 0 0;output 0 0;gate and 0 2;");
        });
    }

    private static void loadLength() {
        sentence("Promise 3: Throws IllegalArgumentException if length is negative or greater than the length of the "
                + "buffer; the buffer is unchanged then.", () -> {
            FaultTests x = new FaultTests();
            for (int length : new int[] {-1, 1, 20, Integer.MIN_VALUE, Integer.MAX_VALUE}) {
                due(ILLEGAL, () -> x.load(length));
            }
            put(x, "circuit 2;output 1; ");
            for (int length : new int[] {-1, 21, 40, 800, 801, Integer.MIN_VALUE, Integer.MAX_VALUE}) {
                due(ILLEGAL, () -> x.load(length));
            }
            same(2, x.load(20));
            same(1, x.state(2));
            FaultTests full = new FaultTests();
            put(full, "circuit 2;" + " ".repeat(790));
            due(ILLEGAL, () -> full.load(801));
            same(2, full.load(800));
        });
    }

    private static void errorOffset() {
        sentence("Promise 4: -1 if it found none or if there was no such call", () -> {
            FaultTests x = new FaultTests();
            same(-1, x.errorOffset());
            due(ILLEGAL, () -> x.load(1));
            same(-1, x.errorOffset());
            same(SYNTAX, x.load(0));
            same(0, x.errorOffset());
            same(1, read(x, "circuit 1;"));
            same(-1, x.errorOffset());
        });
        sentence("Promise 4: the offset of the error found by the latest call of load that did not throw", () -> {
            FaultTests x = new FaultTests();
            same(SYNTAX, read(x, " ".repeat(800)));
            same(800, x.errorOffset());
            due(ILLEGAL, () -> x.load(-1));
            due(ILLEGAL, () -> x.load(1));
            same(800, x.errorOffset());
            same(RANGE, read(x, "circuit 9;"));
            same(8, x.errorOffset());
        });
    }

    private static void state() {
        sentence("Promise 5: Throws IllegalArgumentException if what is out of range.", () -> {
            FaultTests x = and();
            for (int what : new int[] {-1, 9, 10, Integer.MIN_VALUE, Integer.MAX_VALUE}) {
                due(ILLEGAL, () -> x.state(what));
            }
            same(2, x.state(0));
            same(1, x.state(8));
        });
        sentence("Promise 5: 0 inputs, 1 wires, 2 outputs, 3 faults, 4 bridges, 5 tests: none and as many as can be",
                () -> {
            FaultTests least = of("circuit 1;");
            FaultTests most = of(Circuits.FULL);
            int[] few = {1, 1, 0, 2, 0, 0};
            int[] many = {8, 24, 6, 56, 8, 16};
            for (int what = 0; what < 6; what++) {
                same(few[what], least.state(what));
                same(many[what], most.state(what));
            }
        });
    }

    private static void stateCounts() {
        sentence("Promise 5: 6 values 0 and 1 that were seen", () -> {
            FaultTests x = of(Circuits.FULL);
            same(0, x.state(6));
            for (int n = 0; n < 96; n++) {
                x.see(n / 6, n % 6, n & 1);
            }
            same(96, x.state(6));
            x.see(15, 5, 2);
            same(95, x.state(6));
            x.see(0, 0, 1);
            same(95, x.state(6));
        });
        sentence("Promise 5: 7 faults that at least one test finds", () -> {
            same(0, of("circuit 1;output 0;").state(7));
            same(0, of("circuit 1;test 1;test 0;").state(7));
            same(0, of("circuit 1;output 0;test x;").state(7));
            same(1, of("circuit 1;output 0;test 1;test 1;").state(7));
            same(2, of("circuit 1;output 0;test 1;test 0;").state(7));
            same(17, of(Circuits.FULL).state(7));
        });
        sentence("Promise 5: 8 the greatest level of a wire", () -> {
            same(0, of("circuit 8;output 7;").state(8));
            same(1, of("circuit 8;gate not 7;").state(8));
            same(16, of(Circuits.FULL).state(8));
            same(3, of("circuit 1;" + Circuits.chain("not", 1, 3) + "gate not 0;").state(8));
        });
    }

    private static void wire() {
        sentence("Promise 6: Throws IndexOutOfBoundsException if there is no such wire.", () -> {
            FaultTests x = of(Circuits.FULL);
            for (int wire : wrong(24)) {
                due(OUT, () -> x.wire(wire, 0));
                due(OUT, () -> x.wire(wire, 5));
            }
            same(-1, x.wire(0, 0));
            same(7, x.wire(23, 0));
        });
        sentence("Promise 6: Throws IllegalArgumentException if what is out of range.", () -> {
            FaultTests x = of(Circuits.FULL);
            for (int what : new int[] {-1, 5, 6, Integer.MIN_VALUE, Integer.MAX_VALUE}) {
                due(ILLEGAL, () -> x.wire(0, what));
                due(ILLEGAL, () -> x.wire(23, what));
            }
            same(7, x.wire(23, 0));
            same(5, x.wire(23, 4));
        });
        sentence("Promise 6: 0 its kind (-1 for an input), 1 the number of its operands (0 for an input)", () -> {
            FaultTests x = of("circuit 2;gate buf 0;gate nand 0 1;gate mux 0 1 0;gate xor 0 0 0 0;");
            int[] kinds = {-1, -1, 7, 2, 8, 4};
            int[] operands = {0, 0, 1, 2, 3, 4};
            for (int wire = 0; wire < 6; wire++) {
                same(kinds[wire], x.wire(wire, 0));
                same(operands[wire], x.wire(wire, 1));
            }
        });
    }

    private static void wireCounts() {
        sentence("Promise 6: 2 its level: 0 for an input, otherwise 1 more than the greatest level of an operand",
                () -> {
            FaultTests chain = of(Circuits.FULL);
            for (int wire = 0; wire < 24; wire++) {
                same(wire < 8 ? 0 : wire - 7, chain.wire(wire, 2));
            }
            FaultTests x = of("circuit 2;gate not 0;gate and 2 1;gate or 1 3 2 0;gate mux 0 1 4;gate not 1;");
            int[] levels = {0, 0, 1, 2, 3, 4, 1};
            for (int wire = 0; wire < 7; wire++) {
                same(levels[wire], x.wire(wire, 2));
            }
        });
        sentence("Promise 6: 3 how often it is an operand (if a gate has it several times, each time counts)", () -> {
            FaultTests x = of("circuit 2;" + "gate and 0 0 0 0;".repeat(16));
            same(64, x.wire(0, 3));
            same(0, x.wire(1, 3));
            same(0, x.wire(17, 3));
            FaultTests y = of("circuit 2;gate and 0 1 0;gate mux 2 0 2;output 0 1;bridge and 0 1;");
            int[] uses = {3, 1, 2, 0};
            for (int wire = 0; wire < 4; wire++) {
                same(uses[wire], y.wire(wire, 3));
            }
        });
        sentence("Promise 6: 4 the index of the output that it is (-1 if it is none)", () -> {
            FaultTests x = of(Circuits.FULL);
            for (int wire = 0; wire < 24; wire++) {
                same(wire < 18 ? -1 : wire - 18, x.wire(wire, 4));
            }
        });
    }

    private static void operand() {
        sentence("Promise 7: Throws NoSuchElementException if it has no such operand.", () -> {
            FaultTests x = of("circuit 4;gate buf 3;gate and 2 1;gate mux 3 2 1;gate or 3 2 1 0;gate buf 0;");
            int[][] operands = {{}, {}, {}, {}, {3}, {2, 1}, {3, 2, 1}, {3, 2, 1, 0}, {0}};
            for (int wire = 0; wire < 9; wire++) {
                int asked = wire;
                for (int k = 0; k < operands[wire].length; k++) {
                    same(operands[wire][k], x.operand(wire, k));
                }
                for (int k : wrong(operands[wire].length)) {
                    due(NONE, () -> x.operand(asked, k));
                }
            }
        });
        sentence("Promise 7: Throws IndexOutOfBoundsException if there is no such wire.", () -> {
            FaultTests x = of("circuit 8;" + "gate not 7;".repeat(16));
            for (int wire : wrong(24)) {
                due(OUT, () -> x.operand(wire, 0));
                due(OUT, () -> x.operand(wire, -1));
            }
            same(7, x.operand(23, 0));
            due(NONE, () -> x.operand(0, 0));
        });
    }

    private static void value() {
        sentence("Promise 8: Throws IndexOutOfBoundsException if there is no such test or wire.", () -> {
            FaultTests x = of(Circuits.FULL);
            for (int test : wrong(16)) {
                due(OUT, () -> x.value(test, 0));
            }
            for (int wire : wrong(24)) {
                due(OUT, () -> x.value(0, wire));
            }
            same(1, x.value(0, 0));
            same(1, x.value(15, 23));
            due(OUT, () -> new FaultTests().value(0, 0));
        });
    }

    private static void faulty() {
        sentence("Promise 9: Throws IndexOutOfBoundsException if there is no such test, fault or wire.", () -> {
            FaultTests x = of(Circuits.FULL);
            for (int test : wrong(16)) {
                due(OUT, () -> x.faulty(test, 0, 0));
            }
            for (int fault : wrong(56)) {
                due(OUT, () -> x.faulty(0, fault, 0));
            }
            for (int wire : wrong(24)) {
                due(OUT, () -> x.faulty(0, 0, wire));
            }
            same(0, x.faulty(0, 0, 0));
            same(0, x.faulty(15, 46, 23));
            same(1, x.faulty(15, 55, 23));
            due(OUT, () -> of("circuit 1;test 0;").faulty(0, 2, 0));
        });
    }

    private static void finds() {
        sentence("Promise 10: Returns 2 if the test finds the fault, 1 if it may find it, otherwise 0.", () -> {
            FaultTests x = of("circuit 2;gate and 0 1;output 2;test 0 1;test 0 x;test 0 0;test x x;");
            for (int test = 0; test < 4; test++) {
                same(Math.max(0, 2 - test), x.finds(test, 1));
            }
        });
        sentence("Promise 10: Throws IndexOutOfBoundsException if there is no such test or fault.", () -> {
            FaultTests x = of(Circuits.FULL);
            for (int test : wrong(16)) {
                due(OUT, () -> x.finds(test, 0));
            }
            for (int fault : wrong(56)) {
                due(OUT, () -> x.finds(0, fault));
            }
            same(2, x.finds(15, 0));
            same(2, x.finds(0, 46));
            same(0, x.finds(0, 55));
        });
    }

    private static void tellsApart() {
        sentence("Promise 11: Throws IndexOutOfBoundsException if there is no such test or fault.", () -> {
            FaultTests x = of(Circuits.FULL);
            for (int test : wrong(16)) {
                due(OUT, () -> x.tellsApart(test, 0, 1));
            }
            for (int fault : wrong(56)) {
                due(OUT, () -> x.tellsApart(0, fault, 0));
                due(OUT, () -> x.tellsApart(0, 0, fault));
                due(OUT, () -> x.tellsApart(0, fault, fault));
            }
            same(true, x.tellsApart(15, 0, 55));
            same(true, x.tellsApart(0, 55, 0));
            same(false, x.tellsApart(0, 55, 55));
            same(false, x.tellsApart(0, 54, 55));
        });
    }

    private static void worth() {
        sentence("Promise 12: Returns the number of faults that it finds. (none, and all of one value)", () -> {
            FaultTests x = of("circuit 6;output 0 1 2 3 4 5;test x x x x x x;test 1 1 1 1 1 1;test 0 0 0 0 0 0;"
                    + "test x x x x x 1;");
            int[] worth = {0, 6, 6, 1};
            for (int test = 0; test < 4; test++) {
                same(worth[test], x.worth(test));
            }
            same(17, of(Circuits.FULL).worth(15));
            same(0, of("circuit 1;test 1;").worth(0));
            same(2, of("circuit 2;output 0;bridge or 0 1;test 0 1;").worth(0));
        });
        sentence("Promise 12: Throws IndexOutOfBoundsException if there is no such test.", () -> {
            FaultTests x = of(Circuits.FULL);
            for (int test : wrong(16)) {
                due(OUT, () -> x.worth(test));
            }
            same(17, x.worth(0));
            due(OUT, () -> new FaultTests().worth(0));
        });
    }

    private static void testFor() {
        sentence("Promise 13: Returns the smallest number of a full test that finds it.", () -> {
            for (int wire = 0; wire < 8; wire++) {
                FaultTests x = of("circuit 8;output " + wire + ";bridge or " + wire + " " + (7 - wire) + ";");
                same(1 << wire, x.testFor(2 * wire));
                same(0, x.testFor(2 * wire + 1));
                same(1 << (7 - wire), x.testFor(16));
            }
            FaultTests all = of(ALL_ONES);
            same(255, all.testFor(0));
            same(254, all.testFor(1));
            same(127, all.testFor(15));
            same(0, all.testFor(21));
        });
        sentence("Promise 13: -1 if there is none", () -> {
            same(-1, of("circuit 8;output 7;").testFor(0));
            same(128, of("circuit 8;output 7;").testFor(14));
            same(-1, new FaultTests().testFor(1));
            same(-1, of(CONSTANT).testFor(5));
            same(0, of(CONSTANT).testFor(4));
            same(-1, of("circuit 1;test x;").testFor(0));
        });
        sentence("Promise 13: Throws IndexOutOfBoundsException if there is no such fault.", () -> {
            FaultTests x = of(Circuits.FULL);
            for (int fault : wrong(56)) {
                due(OUT, () -> x.testFor(fault));
            }
            same(1, x.testFor(0));
            same(1, x.testFor(55));
        });
    }

    private static void testBetween() {
        sentence("Promise 14: Returns the smallest number of a full test that tells both apart.", () -> {
            FaultTests x = of(ALL_ONES);
            for (int first = 0; first < 8; first++) {
                for (int second = 0; second < first; second++) {
                    same(255 - (1 << first), x.testBetween(2 * first + 1, 2 * second + 1));
                    same(255 - (1 << first), x.testBetween(2 * second + 1, 2 * first + 1));
                }
                same(255 - (1 << first), x.testBetween(2 * first, 2 * first + 1));
            }
            same(0, x.testBetween(20, 21));
            FaultTests outputs = of("circuit 8;output 7 6 5;");
            same(64, outputs.testBetween(14, 12));
            same(32, outputs.testBetween(10, 14));
            same(128, outputs.testBetween(14, 0));
        });
        sentence("Promise 14: -1 if there is none", () -> {
            FaultTests x = of(ALL_ONES);
            for (int fault = 0; fault < 22; fault++) {
                same(-1, x.testBetween(fault, fault));
            }
            same(-1, x.testBetween(0, 14));
            same(-1, x.testBetween(20, 2));
            same(-1, of("circuit 2;").testBetween(0, 1));
        });
        sentence("Promise 14: Throws IndexOutOfBoundsException if there is no such fault.", () -> {
            FaultTests x = of(Circuits.FULL);
            for (int fault : wrong(56)) {
                due(OUT, () -> x.testBetween(fault, 0));
                due(OUT, () -> x.testBetween(0, fault));
                due(OUT, () -> x.testBetween(fault, fault));
            }
            same(3, x.testBetween(0, 55));
            same(3, x.testBetween(55, 0));
        });
    }

    private static void hidden() {
        sentence("Promise 15: Returns the number of faults that no full test finds. (none, some and all)", () -> {
            same(0, of("circuit 1;output 0;").hidden());
            same(0, of(ALL_ONES).hidden());
            same(4, of(CONSTANT).hidden());
            same(14, of(Circuits.FULL).hidden());
            same(2, new FaultTests().hidden());
            same(56, of(Circuits.FULL.replace("output 18 19 20 21 22 23;", "")).hidden());
            same(1, of("circuit 3;gate and 0 1 2;output 3;bridge and 0 1;").hidden());
        });
    }

    private static void alike() {
        sentence("Promise 16: Returns the fault with the smallest index that is alike to it (perhaps itself).", () -> {
            FaultTests x = of(Circuits.FULL);
            for (int wire = 0; wire < 24; wire++) {
                boolean chain = wire == 0 || wire >= 8;
                int zero = !chain ? 2 : wire <= 18 ? 0 : 2 * wire;
                int one = !chain ? 2 : wire <= 18 ? 1 : 2 * wire + 1;
                same(zero, x.alike(2 * wire));
                same(one, x.alike(2 * wire + 1));
            }
            for (int bridge = 48; bridge < 56; bridge++) {
                same(48, x.alike(bridge));
            }
            same(0, of("circuit 2;").alike(3));
        });
        sentence("Promise 16: Throws IndexOutOfBoundsException if there is no such fault.", () -> {
            FaultTests x = of(Circuits.FULL);
            for (int fault : wrong(56)) {
                due(OUT, () -> x.alike(fault));
            }
            same(0, x.alike(0));
            same(48, x.alike(55));
        });
    }

    private static void classes() {
        sentence("Promise 17: Returns the number of faults that are not alike to any with a smaller index. (one, some "
                + "and all)", () -> {
            same(1, new FaultTests().classes());
            same(1, of("circuit 8;test 1 1 1 1 1 1 1 1;").classes());
            same(14, of(Circuits.FULL).classes());
            same(2, of("circuit 1;output 0;").classes());
            same(13, of("circuit 6;output 0 1 2 3 4 5;bridge or 4 5;").classes());
            same(12, of(ALL_ONES).classes());
        });
    }

    private static void coverage() {
        sentence("Promise 18: the share of faults that at least one test finds among those that some full test finds, "
                + "both numbers converted to double and divided", () -> {
            same(0.0, of(ALL_ONES).coverage());
            same(0.0, of("circuit 2;output 0;test x 1;").coverage());
            same(2.0 / 6.0, of("circuit 2;gate and 0 1;output 2;test 0 1;").coverage());
            same(5.0 / 6.0, and().coverage());
            same(1.0, of("circuit 1;output 0;test 0;test 1;").coverage());
            same(0.5, of(CONSTANT + "test 1;").coverage());
            same(1.0, of(CONSTANT + "test 0;").coverage());
            same(17.0 / 42.0, of(Circuits.FULL).coverage());
            same(0.0, of("circuit 1;gate xor 0 0;output 1;").coverage());
            same(1.0, of("circuit 1;gate xor 0 0;output 1;test x;test 0;").coverage());
            same(0.0, of("circuit 1;gate xor 0 0;output 1;test x;").coverage());
        });
        sentence("Promise 18: 1.0 if no full test finds any", () -> {
            same(1.0, new FaultTests().coverage());
            same(1.0, of("circuit 2;gate and 0 1;test 1 1;").coverage());
            same(1.0, of("circuit 1;").coverage());
        });
    }

    private static void leastSet() {
        sentence("Promise 19: Returns the set of the fewest tests that finds all faults that at least one test finds.",
                () -> {
            same(0, new FaultTests().leastSet());
            same(0, of("circuit 2;gate and 0 1;test 1 1;").leastSet());
            same(0, of("circuit 2;gate and 0 1;output 2;test x x;").leastSet());
            same(4, of("circuit 2;output 0 1;test 0 x;test x 0;test 0 0;").leastSet());
            same(3, of("circuit 2;output 0 1;test 0 x;test x 0;").leastSet());
            same(65535, of(Circuits.allTestsNeeded()).leastSet());
            same(32767, of(Circuits.allTestsNeeded().replace("test x x 0x x x 0x;", "")).leastSet());
        });
        sentence("Promise 19: of several such sets the smallest number", () -> {
            same(1, of("circuit 1;output 0;" + "test 1;".repeat(16)).leastSet());
            same(3, of("circuit 1;output 0;test 1;" + "test 0;".repeat(15)).leastSet());
            same(6, of("circuit 1;output 0;test x;test 0;test 1;test 0;test 1;").leastSet());
            same(6, of("circuit 3;output 0 1 2;test x 0 x;test 0 0 x;test x 0 0;test 0 0 x;test 0 x 0;").leastSet());
        });
    }

    private static void suspects() {
        sentence("Promise 20: the number of faults that fit what was seen, plus 1 if the circuit without a fault fits, "
                + "too", () -> {
            same(3, new FaultTests().suspects());
            same(57, of(Circuits.FULL).suspects());
            FaultTests x = of("circuit 1;gate not 0;output 0 1;test 0;test 1;test x;");
            same(5, x.suspects());
            same(4, x.see(0, 0, 0));
            same(3, x.see(0, 1, 1));
            same(2, x.see(1, 0, 1));
            same(1, x.see(1, 1, 0));
            same(1, x.suspects());
            same(-1, x.suspect(0));
            same(1, x.see(1, 1, 1));
            same(1, x.suspects());
            same(3, x.suspect(0));
            same(0, x.see(0, 0, 1));
            same(0, x.suspects());
        });
    }

    private static void suspect() {
        sentence("Promise 21: the k-th of the faults that fit what was seen, in ascending order; if the circuit "
                + "without a fault fits, this comes first, as -1", () -> {
            FaultTests x = of(Circuits.FULL);
            for (int k = 0; k < 57; k++) {
                same(k - 1, x.suspect(k));
            }
            FaultTests y = and();
            y.see(0, 0, 0);
            for (int k = 0; k < 3; k++) {
                same(2 * k, y.suspect(k));
            }
        });
        sentence("Promise 21: Throws NoSuchElementException if there are not so many.", () -> {
            FaultTests x = of(Circuits.FULL);
            for (int k : wrong(57)) {
                due(NONE, () -> x.suspect(k));
            }
            same(55, x.suspect(56));
            FaultTests y = and();
            y.see(0, 0, 0);
            for (int k : wrong(3)) {
                due(NONE, () -> y.suspect(k));
            }
            FaultTests none = of("circuit 1;output 0;test 0;test 0;");
            none.see(0, 0, 1);
            none.see(1, 0, 0);
            for (int k : wrong(0)) {
                due(NONE, () -> none.suspect(k));
            }
        });
    }

    private static void nextTest() {
        sentence("Promise 22: -1 if fewer than 2 fit", () -> {
            FaultTests x = of("circuit 1;output 0;test 0;test 1;");
            same(0, x.nextTest());
            same(1, x.see(0, 0, 1));
            same(-1, x.nextTest());
            same(0, x.see(1, 0, 0));
            same(-1, x.nextTest());
            same(1, x.see(0, 0, 2));
            same(-1, x.nextTest());
            same(3, x.see(1, 0, 2));
            same(2, x.see(0, 0, 0));
            same(1, x.nextTest());
        });
        sentence("Promise 22: or there are no tests", () -> {
            FaultTests x = of("circuit 1;output 0;");
            same(-1, x.nextTest());
            x.addTest(0, 0);
            same(0, x.nextTest());
            x.removeTest(0);
            same(-1, x.nextTest());
            same(-1, new FaultTests().nextTest());
        });
    }

    private static void nextTestTies() {
        sentence("Promise 22: the test with which the greatest part is smallest, of several the one with the smallest "
                + "index", () -> {
            FaultTests x = of("circuit 2;output 0;" + "test x 1;".repeat(16));
            same(0, x.nextTest());
            FaultTests y = of("circuit 2;gate and 0 1;output 2;test 0 0;test 1 1;test 0 1;test 1 1;");
            same(1, y.nextTest());
            FaultTests none = of("circuit 2;gate and 0 1;test 0 0;test 1 1;");
            same(0, none.nextTest());
            same(0, of(Circuits.FULL).nextTest());
            FaultTests again = of("circuit 1;output 0;test x;test 1;");
            for (int n = 0; n < 10; n++) {
                same(0, again.nextTest());
            }
        });
        sentence("Promise 22: unknown is a value of its own here", () -> {
            same(15, of("circuit 1;output 0;" + "test 1;".repeat(15) + "test x;").nextTest());
            same(0, of("circuit 1;output 0;test x;" + "test 1;".repeat(15)).nextTest());
        });
        sentence("Promise 22: they are divided by the values of all outputs", () -> {
            FaultTests x = of("circuit 6;output 0 1 2 3 4 5;test 0 0 0 0 0 0;test x x x x x x;");
            same(1, x.nextTest());
            x.removeTest(1);
            same(0, x.nextTest());
            same(1, of("circuit 2;output 0 1;test 1 x;test x x;").nextTest());
            FaultTests last = of("circuit 8;output 0 1 2 3 4 5;test 0 1 0 1 0 1 1 1;test x x x x x 1 1 1;"
                    + "test x x x x x x 1 1;");
            same(2, last.nextTest());
        });
    }

    private static void addTest() {
        sentence("Promise 23: Returns its index. (from 0 to 15)", () -> {
            FaultTests x = of("circuit 8;output 7;");
            for (int test = 0; test < 16; test++) {
                same(test, x.addTest(test % 2 == 0 ? 255 : 128, test % 4 == 1 ? 127 : 0));
                same(test + 1, x.state(5));
                same(1, x.value(test, 7));
                same(test % 4 == 1 ? 2 : test % 2 == 0 ? 1 : 0, x.value(test, 0));
            }
        });
        sentence("Promise 23: the sums of 2^k over the inputs that are 1, and over those that are unknown", () -> {
            FaultTests x = new FaultTests();
            same(0, x.addTest(0, 0));
            same(1, x.addTest(1, 0));
            same(2, x.addTest(0, 1));
            for (int test = 0; test < 3; test++) {
                same(test, x.value(test, 0));
            }
            FaultTests y = of("circuit 8;");
            same(0, y.addTest(255, 0));
            same(1, y.addTest(0, 255));
            same(2, y.addTest(0x55, 0xAA));
            for (int input = 0; input < 8; input++) {
                same(1, y.value(0, input));
                same(2, y.value(1, input));
                same(1 + input % 2, y.value(2, input));
            }
        });
    }

    private static void addTestRefused() {
        sentence("Promise 23: Throws IllegalArgumentException if ones or unknowns is negative or has a bit that is no "
                + "input.", () -> {
            for (int inputs = 1; inputs <= 8; inputs++) {
                FaultTests x = of("circuit " + inputs + ";");
                int above = 1 << inputs;
                for (int sum : new int[] {-1, above, above + 1, 1 << 8, 1 << 30, -above, Integer.MIN_VALUE,
                    Integer.MAX_VALUE}) {
                    due(ILLEGAL, () -> x.addTest(sum, 0));
                    due(ILLEGAL, () -> x.addTest(0, sum));
                }
                same(0, x.state(5));
                same(0, x.addTest(above - 1, 0));
                same(1, x.addTest(0, above - 1));
            }
        });
        sentence("Promise 23: Throws IllegalArgumentException if both have the same bit.", () -> {
            FaultTests x = of("circuit 8;");
            for (int bit = 1; bit < 256; bit *= 2) {
                int same = bit;
                due(ILLEGAL, () -> x.addTest(same, same));
                due(ILLEGAL, () -> x.addTest(255, same));
                due(ILLEGAL, () -> x.addTest(same, 255));
                same(0, x.addTest(255 - bit, bit));
                same(0, x.removeTest(0));
            }
        });
        sentence("Promise 23: Throws IllegalStateException if there are 16 tests.", () -> {
            FaultTests x = of("circuit 1;" + "test 0;".repeat(15));
            same(15, x.addTest(1, 0));
            due(STATE, () -> x.addTest(1, 0));
            due(STATE, () -> x.addTest(0, 1));
            same(16, x.state(5));
            same(15, x.removeTest(7));
            same(15, x.addTest(1, 0));
            due(STATE, () -> x.addTest(1, 0));
        });
    }

    private static void removeTest() {
        sentence("Promise 24: Returns the number of tests then; the indexes of later tests become smaller by 1.",
                () -> {
            FaultTests x = of("circuit 4;test 0 0 0 0;test 1 0 0 0;test 0 1 0 0;test 0 0 1 0;test 0 0 0 x;");
            same(4, x.removeTest(2));
            same(1, x.value(1, 0));
            same(1, x.value(2, 2));
            same(2, x.value(3, 3));
            same(3, x.removeTest(3));
            same(1, x.value(2, 2));
            same(2, x.removeTest(0));
            same(1, x.value(0, 0));
            same(1, x.removeTest(1));
            same(0, x.removeTest(0));
            due(OUT, () -> x.removeTest(0));
            same(15, of(Circuits.FULL).removeTest(15));
            same(15, of(Circuits.FULL).removeTest(0));
        });
        sentence("Promise 24: Throws IndexOutOfBoundsException if there is no such test.", () -> {
            FaultTests x = of(Circuits.FULL);
            for (int test : wrong(16)) {
                due(OUT, () -> x.removeTest(test));
            }
            same(16, x.state(5));
            same(15, x.removeTest(15));
            due(OUT, () -> x.removeTest(15));
            due(OUT, () -> new FaultTests().removeTest(0));
        });
    }

    private static void removeTestSeen() {
        sentence("Promise 24: Removes a test, with what was seen for it.", () -> {
            for (int removed = 0; removed < 16; removed += 5) {
                FaultTests x = of("circuit 2;output 0;" + "test 0 0;".repeat(16));
                for (int test = 0; test < 16; test++) {
                    x.see(test, 0, test == removed ? 1 : 0);
                }
                same(16, x.state(6));
                same(0, x.suspects());
                same(15, x.removeTest(removed));
                same(15, x.state(6));
                same(4, x.suspects());
                same(15, x.addTest(0, 0));
                same(15, x.state(6));
            }
            FaultTests y = of("circuit 2;output 0;test 1 0;test 0 0;test 0 0;");
            y.see(2, 0, 1);
            same(1, y.suspects());
            same(2, y.removeTest(1));
            same(1, y.suspects());
            same(1, y.see(1, 0, 1));
            same(1, y.state(6));
        });
    }

    private static void setKind() {
        sentence("Promise 25: Returns the previous kind.", () -> {
            FaultTests x = of("circuit 2;gate and 0 1;test 1 1;test 1 0;");
            int[] both = {1, 1, 0, 0, 0, 1};
            int[] one = {0, 1, 1, 0, 1, 0};
            for (int kind = 0; kind < 6; kind++) {
                same(kind == 0 ? 0 : kind - 1, x.setKind(2, kind));
                same(kind, x.setKind(2, kind));
                same(kind, x.wire(2, 0));
                same(both[kind], x.value(0, 2));
                same(one[kind], x.value(1, 2));
            }
        });
        sentence("Promise 25: Sets the kind of a gate (what was seen stays).", () -> {
            FaultTests x = and();
            same(3, x.see(0, 0, 0));
            same(0, x.setKind(2, 2));
            same(1, x.state(6));
            same(4, x.suspects());
            same(-1, x.suspect(0));
        });
    }

    private static void setKindRefused() {
        sentence("Promise 25: Throws IllegalArgumentException if the wire is an input.", () -> {
            FaultTests x = of("circuit 8;gate and 0 1;");
            for (int wire = 0; wire < 8; wire++) {
                int input = wire;
                due(ILLEGAL, () -> x.setKind(input, 0));
                due(ILLEGAL, () -> x.setKind(input, 7));
            }
            same(0, x.setKind(8, 1));
        });
        sentence("Promise 25: Throws IllegalArgumentException if kind is not 0 to 8.", () -> {
            FaultTests x = of("circuit 8;gate and 0 1 2;");
            for (int kind : new int[] {-1, 9, 10, Integer.MIN_VALUE, Integer.MAX_VALUE}) {
                due(ILLEGAL, () -> x.setKind(8, kind));
            }
            same(0, x.setKind(8, 8));
            same(8, x.setKind(8, 0));
        });
        sentence("Promise 25: Throws IllegalArgumentException if the gate does not have as many operands as this kind "
                + "needs.", () -> {
            String gates = "circuit 8;gate not 0;gate and 0 1;gate mux 0 1 2;gate or 0 1 2 3;";
            int[] first = {6, 0, 8, 1};
            for (int operands = 1; operands <= 4; operands++) {
                int wire = 7 + operands;
                for (int kind = 0; kind < 9; kind++) {
                    int asked = kind;
                    boolean needs = kind == 8 ? operands == 3 : kind >= 6 ? operands == 1 : operands >= 2;
                    FaultTests x = of(gates);
                    due(needs ? (Object) first[operands - 1] : ILLEGAL, () -> x.setKind(wire, asked));
                    same(needs ? kind : first[operands - 1], x.wire(wire, 0));
                }
            }
        });
        sentence("Promise 25: Throws IndexOutOfBoundsException if there is no such wire.", () -> {
            FaultTests x = of(Circuits.FULL);
            for (int wire : wrong(24)) {
                due(OUT, () -> x.setKind(wire, 7));
                due(OUT, () -> x.setKind(wire, 9));
            }
            same(7, x.setKind(23, 6));
            same(6, x.wire(23, 0));
        });
    }

    private static void see() {
        sentence("Promise 26: Tells a value that was seen, in place of the one that was told before.", () -> {
            FaultTests x = of(Circuits.FULL);
            int[] values = {0, 1, 0, 2, 1, 2, 2, 0, 0, 1, 1};
            for (int value : values) {
                x.see(15, 5, value);
                same(value == 2 ? 0 : 1, x.state(6));
                same(value == 0 ? 0 : -1, x.suspect(0));
            }
        });
        sentence("Promise 26: value: 0, 1, or 2 for none. Returns the number of suspects then.", () -> {
            FaultTests x = and();
            int[] suspects = {3, 4, 7};
            for (int value = 0; value <= 2; value++) {
                same(suspects[value], x.see(0, 0, value));
                same(suspects[value], x.suspects());
            }
        });
    }

    private static void seeRefused() {
        sentence("Promise 26: Throws IndexOutOfBoundsException if there is no such test or output.", () -> {
            FaultTests x = of(Circuits.FULL);
            for (int test : wrong(16)) {
                due(OUT, () -> x.see(test, 0, 0));
            }
            for (int output : wrong(6)) {
                due(OUT, () -> x.see(0, output, 0));
            }
            same(0, x.state(6));
            same(57, x.see(15, 5, 2));
            due(OUT, () -> of("circuit 1;output 0;").see(0, 0, 0));
            due(OUT, () -> of("circuit 1;test 0;").see(0, 0, 0));
        });
        sentence("Promise 26: Throws IllegalArgumentException if value is out of range.", () -> {
            FaultTests x = and();
            for (int value : new int[] {-1, 3, 4, Integer.MIN_VALUE, Integer.MAX_VALUE}) {
                due(ILLEGAL, () -> x.see(0, 0, value));
            }
            same(0, x.state(6));
            same(7, x.see(0, 0, 2));
            same(3, x.see(0, 0, 0));
        });
    }

    private static void forget() {
        sentence("Promise 27: Forgets all that was seen. Returns how many values 0 and 1 were forgotten.", () -> {
            same(0, new FaultTests().forget());
            FaultTests x = of(Circuits.FULL);
            same(0, x.forget());
            x.see(15, 5, 2);
            same(0, x.forget());
            x.see(15, 5, 0);
            same(1, x.forget());
            for (int n = 0; n < 96; n++) {
                x.see(n / 6, n % 6, n & 1);
            }
            same(96, x.forget());
            same(0, x.state(6));
            same(57, x.suspects());
            same(0, x.forget());
        });
    }

    private static void complete() {
        sentence("Promise 28: until each fault that some full test finds is found by a test", () -> {
            FaultTests x = of("circuit 2;gate and 0 1;output 2;");
            same(3, x.complete());
            same(1.0, x.coverage());
            same(0, x.complete());
            same(0, new FaultTests().complete());
            same(1, of(CONSTANT).complete());
            same(0, of(CONSTANT + "test 0;").complete());
            same(1, of(CONSTANT + "test 1;").complete());
            same(0, of("circuit 2;gate and 0 1;").complete());
            FaultTests most = of(Circuits.tooManyTestsNeeded().replace("bridge and6 7;", ""));
            same(16, most.complete());
            same(1.0, most.coverage());
        });
        sentence("Promise 28: Adds full tests.", () -> {
            FaultTests x = of(ALL_ONES + "test x x x x x x x x;");
            same(9, x.complete());
            for (int test = 1; test < 10; test++) {
                for (int input = 0; input < 8; input++) {
                    same(true, x.value(test, input) < 2);
                }
            }
            same(2, x.value(0, 0));
        });
    }

    private static void completeFull() {
        sentence("Promise 28: or there are 16 tests", () -> {
            for (int tests = 12; tests <= 16; tests++) {
                FaultTests x = of("circuit 2;gate and 0 1;output 2;" + "test x x;".repeat(tests));
                same(Math.min(3, 16 - tests), x.complete());
                same(Math.min(16, tests + 3), x.state(5));
                int[] found = {0, 3, 5, 6};
                same(found[Math.min(3, 16 - tests)], x.state(7));
                same(0, x.complete());
            }
            FaultTests x = of(Circuits.tooManyTestsNeeded());
            same(16, x.complete());
            same(16, x.state(5));
            same(55.0 / 56.0, x.coverage());
            same(0, x.complete());
        });
    }

    private static void completeChoice() {
        sentence("Promise 28: each time the one that finds the most faults that no test finds yet, of several the one "
                + "with the smallest number", () -> {
            FaultTests x = of(ALL_ONES);
            same(9, x.complete());
            int[] added = {255, 127, 247, 191, 223, 239, 251, 253, 254};
            for (int test = 0; test < 9; test++) {
                int number = 0;
                for (int input = 0; input < 8; input++) {
                    number += x.value(test, input) << input;
                }
                same(added[test], number);
            }
            FaultTests yet = of("circuit 2;gate and 0 1;output 2;test 1 1;");
            same(2, yet.complete());
            same(1, yet.value(1, 0));
            same(0, yet.value(1, 1));
            FaultTests tie = of("circuit 8;output 7;");
            same(2, tie.complete());
            for (int input = 0; input < 8; input++) {
                same(0, tie.value(0, input));
                same(input == 7 ? 1 : 0, tie.value(1, input));
            }
        });
    }

    private static void undo() {
        sentence("Promise 29: Returns the number of changes that can still be undone; -1 if there was none to undo, "
                + "and nothing changes then.", () -> {
            FaultTests x = new FaultTests();
            same(-1, x.undo());
            same(-1, x.undo());
            for (int made = 1; made <= 10; made++) {
                x.forget();
                same(Math.min(made, 8) - 1, x.undo());
                x.forget();
            }
            for (int left = 7; left >= 0; left--) {
                same(left, x.undo());
            }
            FaultTests y = and();
            y.undo();
            long before = y.checksum();
            same(-1, y.undo());
            same(before, y.checksum());
            y.addTest(1, 0);
            same(0, y.undo());
        });
        sentence("Promise 29: Undoes the latest change that is not final and has not been undone.", () -> {
            FaultTests x = and();
            long[] sums = new long[12];
            for (int n = 0; n < 12; n++) {
                sums[n] = x.checksum();
                x.addTest(n % 4, 0);
                x.see(n + 2, 0, n % 2);
            }
            for (int left = 7; left >= 0; left--) {
                same(left, x.undo());
                if (left % 2 == 0) {
                    same(sums[8 + left / 2], x.checksum());
                }
            }
            same(-1, x.undo());
            same(sums[8], x.checksum());
        });
    }

    private static void undoKeeps() {
        sentence("Promise 29: The input buffer and the error offset are not affected.", () -> {
            FaultTests x = and();
            x.forget();
            same(SYNTAX, read(x, "circuit"));
            put(x, "circuit 5;");
            same(1, x.undo());
            same(7, x.errorOffset());
            same(5, x.load(10));
            same(-1, x.errorOffset());
            same(RANGE, read(x, "circuit 9;"));
            same(1, x.undo());
            same(8, x.errorOffset());
            due(ILLEGAL, () -> x.load(1));
            same(0, x.undo());
            same(-1, x.undo());
            same(8, x.errorOffset());
        });
    }

    /** Keeps the checksum as a whole number, and wraps it around by the document's words. */
    private static final class Sum {
        private BigInteger sum = BigInteger.ZERO;

        void add(long n) {
            sum = sum.multiply(BigInteger.valueOf(31)).add(BigInteger.valueOf(n));
        }

        boolean overflows() {
            return sum.bitLength() > 63;
        }

        long wrapped() {
            BigInteger range = BigInteger.ONE.shiftLeft(64);
            BigInteger rest = sum.mod(range);
            return rest.bitLength() > 63 ? rest.subtract(range).longValueExact() : rest.longValueExact();
        }
    }

    private static void checksum() {
        sentence("Promise 30: It starts at 0; each number n replaces it by 31 * checksum + n, wrapping around on "
                + "overflow of a long.", () -> {
            Sum sum = new Sum();
            for (int n : new int[] {1, 1, 0, 2, 0, 0, 0, 0, 0, -1, 0, 0, 0, -1, 3}) {
                sum.add(n);
            }
            same(true, sum.overflows());
            same(sum.wrapped(), new FaultTests().checksum());
            boolean negative = false;
            boolean positive = false;
            for (int gates = 0; gates <= 16; gates++) {
                FaultTests x = of("circuit 1;" + "gate not 0;".repeat(gates));
                same(whole(x, new int[0][0]), x.checksum());
                negative |= x.checksum() < 0;
                positive |= x.checksum() > 0;
            }
            same(true, negative && positive);
        });
    }

    /** The checksum by the other methods and what was seen for each test and output. */
    private static long whole(FaultTests x, int[][] seen) {
        Sum sum = new Sum();
        for (int what = 0; what <= 8; what++) {
            sum.add(x.state(what));
        }
        for (int wire = 0; wire < x.state(1); wire++) {
            for (int what = 0; what <= 4; what++) {
                sum.add(x.wire(wire, what));
            }
            for (int k = 0; k < x.wire(wire, 1); k++) {
                sum.add(x.operand(wire, k));
            }
        }
        for (int test = 0; test < seen.length; test++) {
            for (int wire = 0; wire < x.state(1); wire++) {
                sum.add(x.value(test, wire));
            }
            for (int value : seen[test]) {
                sum.add(value);
            }
            sum.add(x.worth(test));
        }
        sum.add(x.suspects());
        return sum.wrapped();
    }

    private static void checksumParts() {
        sentence("Promise 30: for each test the value of each wire without a fault, then the value that was seen for "
                + "each output (2 for none), and then what worth(int) tells of it; suspects()", () -> {
            FaultTests x = of("circuit 3;gate mux 0 1 2;gate nor 0 1 2 3;output 4 3 0;bridge and 0 1;"
                    + "test 1 0 x;test x x x;test 0 0 0;");
            int[][] seen = {{2, 2, 2}, {2, 2, 2}, {2, 2, 2}};
            same(whole(x, seen), x.checksum());
            for (int n = 0; n < 9; n++) {
                seen[n / 3][n % 3] = n % 2;
                x.see(n / 3, n % 3, n % 2);
                same(whole(x, seen), x.checksum());
            }
        });
    }
}
