/**
 * Each sentence of "What it is" and "Terms" (but for the setup text) that names a boundary case has a test of
 * its own here.
 */
public final class BoundaryTermsTest extends Checks {
    private static final String[] KINDS = {"and", "or", "nand", "nor", "xor", "xnor", "not", "buf", "mux"};
    private static final int[] FEWEST = {2, 2, 2, 2, 2, 2, 1, 1, 3};
    private static final int[] MOST = {4, 4, 4, 4, 4, 4, 1, 1, 3};
    private static final String[] SIGNS = {"0", "1", "x"};
    /** Two inputs that are joined by both bridges (faults 4 and 5); the first one is the output. */
    private static final String JOINED = "circuit 2;output 0;bridge and 0 1;bridge or 0 1;";

    public static void main(String[] args) {
        calls();
        valuesAndSets();
        circuitSize();
        circuitOrder();
        gates();
        mux();
        faultIndexes();
        bridgeValues();
        faultsAtWires();
        tests();
        findsByValues();
        findsByOutputs();
        tellsApartByValues();
        alike();
        seen();
        fits();
        changes();
        equalChanges();
        latestChanges();
        finalChanges();
        firstCircuit();
        wrongWires();
        wrongFaults();
        wrongTests();
        wrongOutputs();
        orderOfExceptions();
        nothingChanges();
        finish();
    }

    /** Indexes that are not below the count. */
    private static int[] wrong(int count) {
        return new int[] {-1, count, count + 1, Integer.MIN_VALUE, Integer.MAX_VALUE};
    }

    private static void calls() {
        sentence("An object is used for at most 512 calls after it has been made.", () -> {
            FaultTests x = new FaultTests();
            put(x, "circuit 1;output 0;");
            same(1, x.load(19));
            for (int call = 3; call <= 509; call += 3) {
                same(0, x.addTest(1, 0));
                same(2, x.see(0, 0, 1));
                same(0, x.removeTest(0));
            }
            same(2, x.complete());
            same(2, x.state(7));
            same(3, x.leastSet());
        });
    }

    private static void valuesAndSets() {
        sentence("A value is 0, 1 or 2; 2 means unknown.", () -> {
            FaultTests x = of("circuit 1;output 0;test 0;test 1;test x;");
            for (int value = 0; value <= 2; value++) {
                same(value, x.value(value, 0));
                x.see(0, 0, value);
                same(value == 2 ? 0 : 1, x.state(6));
            }
            due(ILLEGAL, () -> x.see(0, 0, -1));
            due(ILLEGAL, () -> x.see(0, 0, 3));
        });
        sentence("A set of tests is a number: the sum of 2^k over its tests k.", () -> {
            same(0, of("circuit 1;output 0;test x;").leastSet());
            same(1, of("circuit 1;output 0;test 1;").leastSet());
            same(1 << 15, of("circuit 1;output 0;" + "test x;".repeat(15) + "test 1;").leastSet());
            same((1 << 16) - 1, of(Circuits.allTestsNeeded()).leastSet());
        });
    }

    private static void circuitSize() {
        sentence("A circuit has 1 to 8 inputs and at most 16 gates.", () -> {
            error(RANGE, 8, "circuit 0;");
            fine(1, "circuit 1;");
            fine(8, "circuit 8;");
            error(RANGE, 8, "circuit 9;");
            String gates = "circuit 8;" + "gate or 0 7;".repeat(16);
            fine(24, gates);
            error(MANY, gates.length(), gates + "gate or 0 7;");
            FaultTests x = of(gates);
            same(8, x.state(0));
            same(24, x.state(1));
        });
        sentence("At most 6 different wires are outputs, with indexes from 0 in the order in which they are told.",
                () -> {
            FaultTests x = of("circuit 8;output 7 0;output 3;output 6 1 2;");
            int[] outputs = {1, 4, 5, 2, -1, -1, 3, 0};
            for (int wire = 0; wire < 8; wire++) {
                same(outputs[wire], x.wire(wire, 4));
            }
            errorAt(MANY, "circuit 8;output 7 0 3 6 1 2 ^4;");
            errorAt(REPEATED, "circuit 8;output 7 0 3 ^7;");
        });
    }

    private static void circuitOrder() {
        sentence("Its wires have indexes from 0: first the inputs in their order, then the gates in the order in "
                + "which they are told.", () -> {
            FaultTests x = of("circuit 2;gate nor 0 1;output 2;gate not 0;test 0 1;gate buf 1;");
            int[] kinds = {-1, -1, 3, 6, 7};
            int[] values = {0, 1, 0, 1, 1};
            for (int wire = 0; wire < 5; wire++) {
                same(kinds[wire], x.wire(wire, 0));
                same(values[wire], x.value(0, wire));
            }
        });
        sentence("A gate has a kind and operands, which are wires with smaller indexes.", () -> {
            same(2, of("circuit 2;gate not 0;gate not 2;").operand(3, 0));
            same(0, of("circuit 2;gate not 0;gate not 0;").operand(3, 0));
            errorAt(RANGE, "circuit 2;gate not 0;gate not ^3;");
            errorAt(RANGE, "circuit 2;gate not 0;gate not ^4;gate not 0;");
        });
    }

    /** What a gate of the kinds 0 to 7 gives, as the table of kinds says it. */
    private static int given(int kind, int[] operands) {
        int[] count = new int[3];
        for (int value : operands) {
            count[value]++;
        }
        int given;
        switch (kind) {
            case 0, 2 -> given = count[0] >= 1 ? 0 : count[1] == operands.length ? 1 : 2;
            case 1, 3 -> given = count[1] >= 1 ? 1 : count[0] == operands.length ? 0 : 2;
            case 4, 5 -> given = count[2] >= 1 ? 2 : count[1] % 2;
            default -> given = operands[0];
        }
        boolean exchanged = kind == 2 || kind == 3 || kind == 5 || kind == 6;
        return exchanged && given != 2 ? 1 - given : given;
    }

    private static void gates() {
        for (int kind = 0; kind < 8; kind++) {
            int k = kind;
            sentence("The kinds of gates, " + KINDS[k] + ": for all values of " + FEWEST[k] + " to " + MOST[k]
                    + " operands", () -> {
                for (int count = FEWEST[k]; count <= MOST[k]; count++) {
                    gate(k, count);
                }
            });
        }
    }

    private static void gate(int kind, int count) {
        String text = "circuit " + count + ";gate " + KINDS[kind] + " 0 1 2 3".substring(0, 2 * count) + ";";
        int rows = (int) Math.pow(3, count);
        for (int row = 0; row < rows; row++) {
            int[] operands = new int[count];
            StringBuilder test = new StringBuilder("test");
            for (int k = 0, rest = row; k < count; k++, rest /= 3) {
                operands[k] = rest % 3;
                test.append(' ').append(SIGNS[operands[k]]);
            }
            same(given(kind, operands), of(text + test + ";").value(0, count));
        }
    }

    private static void mux() {
        sentence("mux: if the first operand is 0 the second one, if it is 1 the third one; if it is unknown, the "
                + "second one if this is the same as the third one, otherwise unknown", () -> {
            for (int second = 0; second <= 2; second++) {
                for (int third = 0; third <= 2; third++) {
                    String rest = " " + SIGNS[second] + " " + SIGNS[third] + ";";
                    FaultTests x = of("circuit 3;gate mux 0 1 2;test 0" + rest + "test 1" + rest + "test x" + rest);
                    same(second, x.value(0, 3));
                    same(third, x.value(1, 3));
                    same(second == third ? second : 2, x.value(2, 3));
                }
            }
        });
    }

    private static void faultIndexes() {
        sentence("First come two for each wire: fault 2 * w is that wire w has always the value 0, fault 2 * w + 1 "
                + "that it has always the value 1.", () -> {
            FaultTests x = of(Circuits.FULL);
            for (int wire = 0; wire < 24; wire++) {
                same(0, x.faulty(0, 2 * wire, wire));
                same(1, x.faulty(0, 2 * wire + 1, wire));
            }
        });
        sentence("Then come the bridges, at most 8, in the order in which they are told.", () -> {
            StringBuilder text = new StringBuilder("circuit 8;gate buf 7;output 0;test 1 0 0 0 0 0 0 0;");
            for (int other = 1; other <= 8; other++) {
                text.append(other % 2 == 0 ? "bridge or " : "bridge and ").append(other).append(" 0;");
            }
            FaultTests x = of(text.toString());
            same(18 + 8, x.state(3));
            for (int other = 1; other <= 8; other++) {
                for (int wire = 1; wire <= 7; wire++) {
                    same(wire == other && other % 2 == 0 ? 1 : 0, x.faulty(0, 17 + other, wire));
                }
                same(other == 8 ? 1 : 0, x.faulty(0, 17 + other, 8));
                same(other % 2 == 0 ? 1 : 0, x.faulty(0, 17 + other, 0));
            }
            due(OUT, () -> x.faulty(0, 26, 0));
            errorAt(MANY, text + "^bridge or 1 0;");
        });
    }

    private static void bridgeValues() {
        sentence("Both then have the value that an and (or, if it is told so, an or) of the values that they have "
                + "without a fault gives.", () -> {
            for (int first = 0; first <= 2; first++) {
                for (int second = 0; second <= 2; second++) {
                    FaultTests x = of("circuit 2;gate not 0;gate not 1;gate xor 2 3;output 4;bridge and 0 1;"
                            + "bridge or 0 1;bridge and 2 3;bridge or 3 2;test "
                            + SIGNS[first] + " " + SIGNS[second] + ";");
                    int[] pair = {first, second};
                    for (int wire = 0; wire < 2; wire++) {
                        same(given(0, pair), x.faulty(0, 10, wire));
                        same(given(1, pair), x.faulty(0, 11, wire));
                        same(pair[wire], x.faulty(0, 12, wire));
                        same(given(3, pair), x.faulty(0, 12, 2 + wire));
                        same(given(2, pair), x.faulty(0, 13, 2 + wire));
                    }
                }
            }
        });
        sentence("A bridge joins two wires, of which neither depends on the other.", () -> {
            fine(4, "circuit 1;gate not 0;gate not 0;gate not 1;bridge and 1 2;bridge and 2 3;");
            errorAt(LOOP, "circuit 1;gate not 0;gate not 0;gate not 1;bridge and 3 ^1;");
            errorAt(LOOP, "circuit 1;gate not 0;gate not 0;gate not 1;bridge and 0 ^3;");
            errorAt(LOOP, "circuit 1;gate not 0;gate not 0;gate not 1;bridge and 2 ^2;");
        });
    }

    private static void faultsAtWires() {
        sentence("A wire at the fault has the value that was told, for all that use it and as an output, too.", () -> {
            FaultTests x = of("circuit 2;gate and 0 1;gate not 2;gate xor 0 2;output 2 3 4 0;test 1 1;test x 0;");
            int[] withZero = {1, 1, 0, 1, 1};
            int[] withOne = {2, 0, 1, 0, 2};
            for (int wire = 0; wire < 5; wire++) {
                same(withZero[wire], x.faulty(0, 4, wire));
                same(withOne[wire], x.faulty(1, 5, wire));
            }
            same(2, x.finds(0, 0));
            same(2, x.finds(0, 4));
            same(2, x.finds(0, 7));
        });
        sentence("(There is one fault at a time.)", () -> {
            FaultTests x = of("circuit 2;gate xor 0 1;output 2;bridge or 0 1;test 1 0;");
            int[] sums = {0, 1, 1, 0, 0, 1, 0};
            for (int fault = 0; fault < 7; fault++) {
                same(sums[fault], x.faulty(0, fault, 2));
                same(1, x.value(0, 2));
                same(sums[6 - fault], x.faulty(0, 6 - fault, 2));
                same(fault == 0 ? 0 : 1, x.faulty(0, fault, 0));
            }
            same(1, x.value(0, 0));
            same(0, x.value(0, 1));
        });
        sentence("With a fault, the values of the wires are worked out in the order of their indexes.", () -> {
            FaultTests x = of("circuit 1;" + Circuits.chain("not", 1, 16) + "output 16;test 0;");
            for (int wire = 0; wire <= 16; wire++) {
                same(wire == 0 ? 1 : (wire + 1) % 2, x.faulty(0, 1, wire));
                same(wire < 8 ? wire % 2 : (wire + 1) % 2, x.faulty(0, 17, wire));
                same(wire % 2, x.faulty(0, 32, wire));
            }
        });
    }

    private static void tests() {
        sentence("There are at most 16 tests, with indexes from 0.", () -> {
            FaultTests x = of("circuit 4;output 0;" + "test 1 x 0 x;".repeat(14));
            same(14, x.addTest(0, 0));
            same(15, x.addTest(15, 0));
            due(STATE, () -> x.addTest(0, 0));
            same(16, x.state(5));
            same(1, x.value(0, 0));
            same(1, x.value(15, 3));
            due(OUT, () -> x.value(16, 0));
            errorAt(MANY, "circuit 1;" + "test 0;".repeat(16) + "^test 0;");
        });
        sentence("A full test has no unknown values; its number is the sum of 2^k over the inputs k that are 1.",
                () -> {
            FaultTests x = of("circuit 8;gate and 0 1 2 3;gate and 4 5 6 7 ;gate and 8 9;output 10;");
            same(255, x.testFor(0));
            for (int input = 0; input < 8; input++) {
                same(255 - (1 << input), x.testFor(2 * input + 1));
            }
            same(0, x.testFor(21));
            for (int inputs = 1; inputs <= 8; inputs++) {
                int last = inputs - 1;
                String gate = ";gate nand " + last + " " + last + ";";
                FaultTests y = of("circuit " + inputs + gate + "output " + inputs + ";");
                same(1 << last, y.testFor(2 * last));
                same(0, y.testFor(2 * last + 1));
                same(0, y.testBetween(2 * inputs, 2 * last));
                same(-1, y.testBetween(2 * inputs, 2 * last + 1));
                same(2 * last, y.hidden());
                same(2, y.complete());
                same(0, y.value(0, last));
                same(1, y.value(1, last));
            }
        });
    }

    private static void findsByValues() {
        sentence("A test finds a fault if there is an output that has known values with and without the fault, which "
                + "are not the same. It may find a fault if it does not find it, but there is an output the value of "
                + "which is known without the fault and unknown with it.", () -> {
            for (int first = 0; first <= 2; first++) {
                for (int second = 0; second <= 2; second++) {
                    FaultTests x = of(JOINED + "test " + SIGNS[first] + " " + SIGNS[second] + ";");
                    for (int kind = 0; kind < 2; kind++) {
                        int with = given(kind, new int[] {first, second});
                        int finds = first == 2 || first == with ? 0 : with == 2 ? 1 : 2;
                        same(finds, x.finds(0, 4 + kind));
                    }
                }
            }
        });
    }

    private static void findsByOutputs() {
        sentence("It may find a fault if it does not find it, but there is an output ..", () -> {
            FaultTests two = of("circuit 2;gate and 0 1;output 2 0;test 0 x;test 0 0;");
            same(2, two.finds(0, 1));
            FaultTests swapped = of("circuit 2;gate and 0 1;output 0 2;test 0 x;");
            same(2, swapped.finds(0, 1));
            FaultTests last = of("circuit 8;gate and 0 1;output 2 3 4 5 6 8;test 0 x 1 1 1 1 1 1;"
                    + "test 0 1 1 1 1 1 1 1;");
            same(1, last.finds(0, 1));
            same(2, last.finds(1, 1));
            same(0, last.finds(0, 3));
            FaultTests first = of("circuit 8;gate and 0 1;output 8 2 3 4 5 6;test 0 x 1 1 1 1 1 1;"
                    + "test 0 1 1 1 1 1 1 1;");
            same(1, first.finds(0, 1));
            same(2, first.finds(1, 1));
            same(0, of("circuit 2;test 0 1;").finds(0, 1));
        });
    }

    private static void tellsApartByValues() {
        sentence("A test tells two faults apart if there is an output that has known values with the one and with the "
                + "other fault, which are not the same.", () -> {
            for (int first = 0; first <= 2; first++) {
                for (int second = 0; second <= 2; second++) {
                    FaultTests x = of(JOINED + "test " + SIGNS[first] + " " + SIGNS[second] + ";");
                    int[] pair = {first, second};
                    int[] with = {0, 1, first, first, given(0, pair), given(1, pair)};
                    for (int fault = 0; fault < 6; fault++) {
                        for (int other = 0; other < 6; other++) {
                            same(with[fault] + with[other] == 1, x.tellsApart(0, fault, other));
                        }
                    }
                }
            }
        });
        sentence("A test tells two faults apart if there is an output .. (the last one, too)", () -> {
            FaultTests x = of("circuit 8;output 2 3 4 5 6 0;test 1 1 1 1 1 1 1 1;");
            same(true, x.tellsApart(0, 0, 1));
            same(true, x.tellsApart(0, 4, 5));
            same(false, x.tellsApart(0, 2, 3));
            same(false, of("circuit 2;test 0 1;").tellsApart(0, 0, 1));
        });
    }

    private static void alike() {
        sentence("Two faults are alike if no full test tells them apart (all full tests are meant, also those that "
                + "are not among the tests).", () -> {
            FaultTests x = of("circuit 2;gate and 0 1;output 2;");
            int[] alike = {0, 1, 0, 3, 0, 5};
            for (int fault = 0; fault < 6; fault++) {
                same(alike[fault], x.alike(fault));
            }
            x.addTest(0, 3);
            same(1, x.alike(1));
            FaultTests eight = of("circuit 8;gate and 0 1 2 3;gate and 4 5 6 7;gate and 8 9;output 10;");
            same(0, eight.alike(14));
            same(15, eight.alike(15));
            same(13, eight.alike(13));
        });
    }

    private static void seen() {
        sentence("For each test and output a value can be told that was seen; at first none is (2).", () -> {
            FaultTests x = of("circuit 8;output 0 1 2 3 4 5;" + "test 1 0 1 0 1 0 1 0;".repeat(16));
            same(0, x.state(6));
            for (int test = 0; test < 16; test++) {
                for (int output = 0; output < 6; output++) {
                    x.see(test, output, (test + output) % 2);
                    same(6 * test + output + 1, x.state(6));
                }
            }
            x.removeTest(15);
            same(90, x.state(6));
            x.addTest(0, 0);
            same(90, x.state(6));
        });
    }

    private static void fits() {
        sentence("A fault fits if for each value 0 or 1 that was seen the output has this value, or an unknown one, "
                + "for this test with the fault; likewise the circuit without a fault fits.", () -> {
            for (int first = 0; first <= 2; first++) {
                for (int second = 0; second <= 2; second++) {
                    int[] pair = {first, second};
                    int[] with = {first, 0, 1, first, first, given(0, pair), given(1, pair)};
                    FaultTests x = of(JOINED + "test " + SIGNS[first] + " " + SIGNS[second] + ";");
                    for (int seen = 0; seen <= 2; seen++) {
                        int fitting = 0;
                        for (int value : with) {
                            fitting += seen == 2 || value == 2 || value == seen ? 1 : 0;
                        }
                        same(fitting, x.see(0, 0, seen));
                        same(with[0] == 2 || seen == 2 || with[0] == seen ? -1 : seen, x.suspect(0));
                    }
                }
            }
        });
    }

    private static void changes() {
        sentence("The changing methods are load (when it succeeds), addTest, removeTest, setKind, see, forget and "
                + "complete.", () -> {
            FaultTests x = new FaultTests();
            long[] sums = new long[8];
            sums[0] = x.checksum();
            read(x, "circuit 2;gate and 0 1;output 2;");
            sums[1] = x.checksum();
            x.addTest(1, 2);
            sums[2] = x.checksum();
            x.see(0, 0, 1);
            sums[3] = x.checksum();
            x.setKind(2, 3);
            sums[4] = x.checksum();
            x.complete();
            sums[5] = x.checksum();
            x.forget();
            sums[6] = x.checksum();
            x.removeTest(0);
            for (int left = 6; left >= 0; left--) {
                same(left, x.undo());
                same(sums[left], x.checksum());
            }
            same(-1, x.undo());
        });
        sentence("load (when it succeeds): one that fails is no change.", () -> {
            FaultTests x = of("circuit 2;output 0;");
            same(SYNTAX, read(x, "circuit 2;output"));
            same(RANGE, read(x, "circuit 9;"));
            same(0, x.undo());
            same(SYNTAX, read(x, ""));
            same(-1, x.undo());
        });
    }

    private static void equalChanges() {
        sentence("Each such call that does not throw an exception is a change, also if all data stay as they were.",
                () -> {
            FaultTests x = new FaultTests();
            read(x, "circuit 1;");
            same(0, x.undo());
            same(-1, x.undo());
            FaultTests y = of("circuit 2;gate and 0 1;output 2;test 1 1;test 1 0;test 0 1;");
            long before = y.checksum();
            same(7, y.see(0, 0, 2));
            same(0, y.setKind(2, 0));
            same(0, y.forget());
            same(0, y.complete());
            same(before, y.checksum());
            for (int left = 4; left >= 0; left--) {
                same(left, y.undo());
                if (left > 0) {
                    same(before, y.checksum());
                }
            }
            same(-1, y.undo());
        });
    }

    /** An object with two changes: it was loaded, and then the test with all ones was added. */
    private static FaultTests counted() {
        FaultTests x = of("circuit 4;output 0;");
        x.addTest(15, 0);
        return x;
    }

    private static void latestChanges() {
        sentence("The latest 8 changes that have not been undone can be undone, the latest one first.", () -> {
            FaultTests x = counted();
            for (int n = 0; n < 6; n++) {
                x.addTest(n, 0);
            }
            for (int left = 7; left >= 0; left--) {
                same(left, x.undo());
                same(left == 0 ? 0 : left - 1, x.state(5));
            }
            same(1, x.state(1));
            same(-1, x.undo());
            FaultTests y = counted();
            for (int n = 0; n < 7; n++) {
                y.addTest(n, 0);
            }
            for (int left = 7; left >= 0; left--) {
                same(left, y.undo());
                same(left, y.state(5));
            }
            same(-1, y.undo());
            same(4, y.state(1));
        });
    }

    private static void finalChanges() {
        sentence("A change is final as soon as 8 later ones, none of them undone, have been made.", () -> {
            FaultTests x = counted();
            for (int n = 0; n < 7; n++) {
                x.addTest(n, 0);
            }
            same(7, x.undo());
            same(6, x.undo());
            x.addTest(9, 0);
            for (int left = 6; left >= 0; left--) {
                same(left, x.undo());
            }
            same(-1, x.undo());
            same(0, x.state(5));
            same(4, x.state(1));
            FaultTests y = counted();
            for (int n = 0; n < 6; n++) {
                y.addTest(n, 0);
            }
            same(7, y.undo());
            y.addTest(9, 0);
            for (int left = 7; left >= 0; left--) {
                same(left, y.undo());
            }
            same(1, y.state(1));
            same(-1, y.undo());
        });
        sentence("Changes that were undone and made again many times do not run out.", () -> {
            FaultTests x = counted();
            for (int n = 0; n < 40; n++) {
                x.addTest(n % 16, 0);
                x.addTest(n % 16, 0);
                same(3, x.undo());
                same(2, x.undo());
            }
            same(1, x.state(5));
            same(1, x.value(0, 3));
            same(1, x.undo());
            same(0, x.undo());
            same(-1, x.undo());
        });
    }

    private static void firstCircuit() {
        sentence("Before the first successful load the circuit has one input and nothing else.", () -> {
            FaultTests x = new FaultTests();
            for (int round = 0; round < 3; round++) {
                int[] states = {1, 1, 0, 2, 0, 0, 0, 0, 0};
                for (int what = 0; what < 9; what++) {
                    same(states[what], x.state(what));
                }
                same(-1, x.wire(0, 0));
                same(-1, x.wire(0, 4));
                same(2, x.hidden());
                same(3, x.suspects());
                if (round == 0) {
                    same(SYNTAX, read(x, "circuit 3;gate and 0 1;output 3;test 1 1 1"));
                } else {
                    same(4, read(x, "circuit 3;gate and 0 1;output 3;test 1 1 1;"));
                    same(0, x.undo());
                }
            }
        });
    }

    private static void wrongWires() {
        sentence("IndexOutOfBoundsException is thrown if a parameter named wire is not the index of such a thing.",
                () -> {
            FaultTests x = of("circuit 2;gate and 0 1;output 2;test 1 1;");
            for (int wire : wrong(3)) {
                due(OUT, () -> x.wire(wire, 0));
                due(OUT, () -> x.operand(wire, 0));
                due(OUT, () -> x.value(0, wire));
                due(OUT, () -> x.faulty(0, 0, wire));
                due(OUT, () -> x.setKind(wire, 0));
            }
            same(0, x.wire(2, 0));
            same(0, x.operand(2, 0));
            same(1, x.value(0, 2));
            same(0, x.faulty(0, 0, 2));
            same(0, x.setKind(2, 0));
            same(-1, x.wire(0, 0));
            same(1, x.value(0, 0));
            same(0, x.faulty(0, 0, 0));
        });
    }

    private static void wrongFaults() {
        sentence("IndexOutOfBoundsException is thrown if a parameter named fault or other is not the index of such a "
                + "thing.", () -> {
            FaultTests x = of("circuit 2;gate and 0 1;output 2;bridge or 0 1;test 1 0;");
            for (int fault : wrong(7)) {
                due(OUT, () -> x.faulty(0, fault, 0));
                due(OUT, () -> x.finds(0, fault));
                due(OUT, () -> x.tellsApart(0, fault, 0));
                due(OUT, () -> x.tellsApart(0, 0, fault));
                due(OUT, () -> x.testFor(fault));
                due(OUT, () -> x.testBetween(fault, 0));
                due(OUT, () -> x.testBetween(0, fault));
                due(OUT, () -> x.alike(fault));
            }
            same(1, x.faulty(0, 6, 1));
            same(2, x.finds(0, 6));
            same(true, x.tellsApart(0, 6, 0));
            same(true, x.tellsApart(0, 0, 6));
            same(1, x.testFor(6));
            same(1, x.testBetween(6, 0));
            same(1, x.testBetween(0, 6));
            same(6, x.alike(6));
            same(0, x.alike(0));
        });
    }

    private static void wrongTests() {
        sentence("IndexOutOfBoundsException is thrown if a parameter named test is not the index of such a thing.",
                () -> {
            for (int tests : new int[] {0, 1, 16}) {
                FaultTests x = of("circuit 1;output 0;" + "test 1;".repeat(tests));
                for (int test : wrong(tests)) {
                    due(OUT, () -> x.value(test, 0));
                    due(OUT, () -> x.faulty(test, 0, 0));
                    due(OUT, () -> x.finds(test, 0));
                    due(OUT, () -> x.tellsApart(test, 0, 1));
                    due(OUT, () -> x.worth(test));
                    due(OUT, () -> x.removeTest(test));
                    due(OUT, () -> x.see(test, 0, 0));
                }
                if (tests > 0) {
                    int last = tests - 1;
                    same(1, x.value(last, 0));
                    same(0, x.faulty(last, 0, 0));
                    same(2, x.finds(last, 0));
                    same(true, x.tellsApart(last, 0, 1));
                    same(1, x.worth(last));
                    same(1, x.see(last, 0, 0));
                    same(last, x.removeTest(last));
                }
            }
        });
    }

    private static void wrongOutputs() {
        sentence("IndexOutOfBoundsException is thrown if a parameter named output is not the index of such a thing.",
                () -> {
            for (int outputs : new int[] {0, 1, 6}) {
                String told = outputs == 0 ? "" : "output" + " 5 4 3 2 1 0".substring(0, 2 * outputs) + ";";
                FaultTests x = of("circuit 8;" + told + "test 1 1 1 1 1 1 1 1;");
                for (int output : wrong(outputs)) {
                    due(OUT, () -> x.see(0, output, 0));
                }
                if (outputs > 0) {
                    same(16, x.see(0, outputs - 1, 1));
                }
            }
        });
    }

    private static void orderOfExceptions() {
        sentence("If several exceptions apply to a call, the one that comes first in the method's throws list is "
                + "thrown.", () -> {
            FaultTests x = of("circuit 2;gate and 0 1;output 2;" + "test 1 1;".repeat(16));
            due(OUT, () -> x.wire(3, 5));
            due(OUT, () -> x.wire(-1, -1));
            due(OUT, () -> x.operand(3, 0));
            due(OUT, () -> x.operand(-1, -1));
            due(ILLEGAL, () -> x.addTest(4, 0));
            due(ILLEGAL, () -> x.addTest(0, -1));
            due(ILLEGAL, () -> x.addTest(1, 1));
            due(OUT, () -> x.setKind(3, 0));
            due(OUT, () -> x.setKind(-1, 9));
            due(OUT, () -> x.see(16, 0, 3));
            due(OUT, () -> x.see(0, 1, 3));
            due(OUT, () -> x.see(-1, -1, -1));
        });
    }

    private static void nothingChanges() {
        sentence("A method that throws an exception changes nothing.", () -> {
            FaultTests x = of("circuit 2;gate and 0 1;output 2;" + "test 1 1;".repeat(16));
            x.see(3, 0, 1);
            same(SYNTAX, read(x, "circuit"));
            same(20, x.append(0x63697263, 0x75697420, 0x333b2020, 0x20202020, 0x20202020));
            long before = x.checksum();
            Call[] refused = {
                () -> x.load(21), () -> x.load(-1), () -> x.state(9), () -> x.wire(3, 0), () -> x.wire(2, 5),
                () -> x.operand(2, 2), () -> x.value(16, 0), () -> x.faulty(0, 6, 0), () -> x.finds(0, 6),
                () -> x.tellsApart(0, 0, 6), () -> x.worth(16), () -> x.testFor(6), () -> x.testBetween(0, 6),
                () -> x.alike(6), () -> x.suspect(9), () -> x.addTest(4, 0), () -> x.addTest(0, 0),
                () -> x.removeTest(16), () -> x.setKind(3, 0), () -> x.setKind(2, 9), () -> x.setKind(2, 7),
                () -> x.setKind(0, 0), () -> x.see(16, 0, 0), () -> x.see(0, 1, 0), () -> x.see(3, 0, 3)
            };
            for (Call call : refused) {
                boolean threw = false;
                try {
                    call.make();
                } catch (RuntimeException e) {
                    threw = true;
                }
                same(true, threw);
                same(before, x.checksum());
            }
            same(7, x.errorOffset());
            same(40, x.append(0, 0, 0, 0, 0));
            same(1, x.undo());
            same(0, x.state(6));
            same(3, x.load(20));
        });
    }
}
