/** Each promise of the document by hand: ordinary inputs, the edges that the document names, and wrong inputs. */
public final class PromiseTest extends Checks {
    private static void promise(int number) {
        about("promise " + number);
    }

    /** Two inputs and one and: faults 0, 2 and 4 make it 0, the faults 1, 3 and 5 are all different. */
    private static FaultTests and() {
        return of("circuit 2;gate and 0 1;output 2;test 1 1;test 0 1;");
    }

    public static void main(String[] args) {
        newObject();
        append();
        load();
        texts();
        limits();
        errorOffset();
        state();
        wires();
        gates();
        faults();
        finding();
        fullTests();
        sharesAndSets();
        suspects();
        nextTest();
        changingTests();
        changingKinds();
        seeing();
        completing();
        undoing();
        checksum();
        finish();
    }

    private static void newObject() {
        promise(1);
        FaultTests x = new FaultTests();
        int[] states = {1, 1, 0, 2, 0, 0, 0, 0, 0};
        for (int what = 0; what < states.length; what++) {
            int w = what;
            due(states[w], () -> x.state(w));
        }
        due(-1, () -> x.wire(0, 0));
        due(-1, x::errorOffset);
        due(-1, x::undo);
        due(ILLEGAL, () -> x.load(1));
        due(20, () -> x.append(0, 0, 0, 0, 0));
    }

    private static void append() {
        promise(2);
        FaultTests x = new FaultTests();
        for (int n = 1; n <= 40; n++) {
            int length = 20 * n;
            due(length, () -> x.append(0x20202020, 0x20202020, 0x20202020, 0x20202020, 0x20202020));
        }
        due(-1, () -> x.append(0, 0, 0, 0, 0));
        due(ILLEGAL, () -> x.load(801));
        due(FaultTests.SYNTAX_ERROR, () -> x.load(800));
        due(800, x::errorOffset);
        due(20, () -> x.append(0x63697263, 0x75697420, 0x323b6f75, 0x74707574, 0x20313b20));
        due(2, () -> x.load(20));
        due(0, () -> x.wire(1, 4));
        due(20, () -> x.append(0xff000000, -1, Integer.MIN_VALUE, Integer.MAX_VALUE, 1));
        due(FaultTests.SYNTAX_ERROR, () -> x.load(20));
        due(0, x::errorOffset);
    }

    private static void load() {
        promise(3);
        FaultTests x = new FaultTests();
        put(x, "circuit 2;gate or 0 1;");
        due(ILLEGAL, () -> x.load(-1));
        due(ILLEGAL, () -> x.load(41));
        due(ILLEGAL, () -> x.load(Integer.MIN_VALUE));
        due(2, () -> x.load(10));
        due(ILLEGAL, () -> x.load(1));
        due(FaultTests.SYNTAX_ERROR, () -> x.load(0));
        due(0, x::errorOffset);
        put(x, "circuit");
        due(FaultTests.SYNTAX_ERROR, () -> x.load(7));
        due(ILLEGAL, () -> x.load(1));
        due(2, () -> x.state(1));
        FaultTests y = and();
        due(1, () -> {
            y.see(0, 0, 1);
            return y.state(6);
        });
        due(3, () -> read(y, "circuit 2;gate and 0 1;output 2;test 1 1;"));
        due(0, () -> y.state(6));
        due(1, () -> y.state(5));
        due(1, () -> read(y, "circuit 1;"));
        due(0, () -> y.state(2));
        due(2, () -> y.state(3));
        due(0, () -> y.wire(0, 3));
    }

    private static void texts() {
        promise(3);
        int syntax = FaultTests.SYNTAX_ERROR;
        fine(1, "circuit 1;");
        fine(8, "   circuit   8  ;   ");
        fine(3, "circuit2;gate and0 1;output2;test0x;test x1;");
        fine(3, "circuit 00000000000000000000002;gate xor 000 0001;");
        fine(13, "circuit 8;gate mux 0 1 2;gate not 8;gate buf 9;gate nand 0 1 2 3;gate nor 0 0;");
        fine(4, "circuit 3;gate xnor 0 1 2;output3;");
        fine(2, "circuit 2;test 000 00001;");
        error(syntax, 0, "");
        error(syntax, 3, "   ");
        error(syntax, 0, ";");
        error(syntax, 0, "circuits 2;");
        error(syntax, 0, "Circuit 2;");
        error(syntax, 7, "circuit");
        error(syntax, 8, "circuit ");
        error(syntax, 8, "circuit x;");
        error(syntax, 9, "circuit 2");
        error(syntax, 11, "circuit 2  ");
        error(syntax, 10, "circuit 2 2;");
        error(syntax, 9, "circuit 2\n;");
        error(syntax, 0, "circuitz 2;");
        error(syntax, 0, "circuita 2;");
        error(syntax, 7, "circuit{2;");
        error(syntax, 7, "circuit`2;");
        error(syntax, 9, "circuit 2/;");
        error(syntax, 9, "circuit 2:;");
        error(syntax, 9, "circuit 2\u00b2;");
        error(syntax, 7, "circuit\t2;");
        error(syntax, 10, "circuit 2;;");
        error(syntax, 10, "circuit 2;gates and 0 1;");
        error(syntax, 10, "circuit 2;2;");
        error(syntax, 10, "circuit 2;\0");
        error(syntax, 10, "circuit 2;and 0 1;");
        error(syntax, 15, "circuit 2;gate 0 1;");
        error(syntax, 15, "circuit 2;gate add 0 1;");
        error(syntax, 10, "circuit 2;gateand 0 1;");
        error(syntax, 21, "circuit 2;gate and 0 ;");
        error(syntax, 23, "circuit 2;gate and 0 1 ");
        error(syntax, 27, "circuit 2;gate and 0 1 0 1 0;");
        error(syntax, 27, "circuit 2;gate and 0 1 0 1 9;");
        error(syntax, 21, "circuit 2;gate not 0 1;");
        error(syntax, 18, "circuit 2;gate not;");
        error(syntax, 22, "circuit 2;gate mux 0 1;");
        error(syntax, 25, "circuit 2;gate mux 0 1 1 1;");
        error(syntax, 21, "circuit 2;gate and 0 x 1;");
        error(syntax, 16, "circuit 2;output;");
        error(syntax, 19, "circuit 2;output 0 and;");
        error(syntax, 17, "circuit 2;bridge xor 0 1;");
        error(syntax, 17, "circuit 2;bridge 0 1;");
        error(syntax, 22, "circuit 2;bridge and 0;");
        error(syntax, 25, "circuit 2;bridge and 0 1 1;");
        error(syntax, 16, "circuit 2;test 0;");
        error(syntax, 19, "circuit 2;test 0 1 0;");
        error(syntax, 19, "circuit 2;test 0 1 7;");
        error(syntax, 15, "circuit 2;test xx;");
        error(syntax, 14, "circuit 2;test;");
        error(syntax, 16, "circuit 2;test 0-1;");
        int range = FaultTests.OUT_OF_RANGE;
        error(range, 8, "circuit 0;");
        error(range, 8, "circuit 9");
        error(range, 8, "circuit 0009;");
        error(range, 8, "circuit 4294967297;");
        error(range, 8, "circuit 18446744073709551617x");
        error(range, 21, "circuit 2;gate and 0 2;");
        error(range, 21, "circuit 2;gate and 0 18446744073709551616;");
        error(range, 17, "circuit 2;output 2;gate and 0 1;");
        error(range, 23, "circuit 2;bridge and 0 2;");
        error(range, 21, "circuit 2;bridge and 2 2;");
        error(range, 17, "circuit 2;test 0 2;");
        error(range, 17, "circuit 2;test 0 10000000000000000000000000000000000;");
        int repeated = FaultTests.REPEATED;
        error(repeated, 19, "circuit 2;output 0 0;");
        error(repeated, 28, "circuit 2;output 0;output 1 00;");
        int loop = FaultTests.LOOP;
        error(loop, 23, "circuit 2;bridge and 0 0;");
        error(loop, 35, "circuit 2;gate or 0 1;bridge and 0 2;");
        error(loop, 34, "circuit 2;gate or 0 1;bridge or 2 1;");
        error(loop, 45, "circuit 2;gate or 0 1;gate not 2;bridge or 0 3;");
        error(loop, 24, "circuit 2;bridge and 00 00 0;");
        fine(4, "circuit 2;gate not 0;gate not 1;bridge and 2 3;bridge or 3 2;bridge and 0 3;bridge and 0 1;");
    }

    private static void limits() {
        promise(3);
        int many = FaultTests.TOO_MANY;
        String gates = "circuit 1;" + "gate buf 0;".repeat(16);
        fine(17, gates);
        error(many, gates.length(), gates + "gate buf 0;");
        error(many, gates.length() + 2, gates + "  gate");
        error(FaultTests.SYNTAX_ERROR, gates.length(), gates + "gat");
        String bridges = "circuit 2;" + "bridge and 0 1;".repeat(8);
        fine(2, bridges);
        error(many, bridges.length(), bridges + "bridge and 0 0;");
        String tests = "circuit 1;" + "test 0;".repeat(16);
        fine(1, tests);
        error(many, tests.length(), tests + "test 2;");
        String outputs = "circuit 8;output 0 1 2;output 3 4 5";
        fine(8, outputs + ";");
        error(many, outputs.length() + 1, outputs + " 6;");
        error(many, outputs.length() + 8, outputs + ";output 6;");
        error(FaultTests.REPEATED, outputs.length() + 1, outputs + " 5;");
        error(FaultTests.OUT_OF_RANGE, outputs.length() + 1, outputs + " 8;");
        error(FaultTests.SYNTAX_ERROR, outputs.length() + 1, outputs + " x;");
    }

    private static void errorOffset() {
        promise(4);
        FaultTests x = new FaultTests();
        due(-1, x::errorOffset);
        due(FaultTests.SYNTAX_ERROR, () -> read(x, "circuit 2"));
        due(9, x::errorOffset);
        due(ILLEGAL, () -> x.load(1));
        due(9, x::errorOffset);
        due(2, () -> read(x, "circuit 2;"));
        due(-1, x::errorOffset);
        due(FaultTests.OUT_OF_RANGE, () -> read(x, "circuit 9;"));
        due(0, x::undo);
        due(8, x::errorOffset);
    }

    private static void state() {
        promise(5);
        FaultTests x = of("circuit 3;gate and 0 1;gate not 3;gate or 4 2 0;output 5 3;bridge and 0 1;bridge or 2 3;"
                + "test 1 1 0;test 0 x 1;");
        int[] states = {3, 6, 2, 14, 2, 2, 0, 6, 3};
        for (int what = 0; what < states.length; what++) {
            int w = what;
            due(states[w], () -> x.state(w));
        }
        x.see(1, 1, 0);
        x.see(0, 1, 1);
        x.see(0, 0, 2);
        due(2, () -> x.state(6));
        due(ILLEGAL, () -> x.state(-1));
        due(ILLEGAL, () -> x.state(9));
        due(0, () -> of("circuit 4;output 1;").state(8));
        due(16, () -> {
            StringBuilder chain = new StringBuilder("circuit 1;");
            for (int g = 0; g < 16; g++) {
                chain.append("gate not ").append(g).append(";");
            }
            return of(chain.toString()).state(8);
        });
    }

    private static void wires() {
        promise(6);
        FaultTests x = of("circuit 2;gate xnor 0 0 1 0;gate mux 2 1 2;output 3 1;");
        int[][] wires = {{-1, 0, 0, 3, -1}, {-1, 0, 0, 2, 1}, {5, 4, 1, 2, -1}, {8, 3, 2, 0, 0}};
        for (int w = 0; w < 4; w++) {
            for (int what = 0; what < 5; what++) {
                int wire = w;
                int asked = what;
                due(wires[w][what], () -> x.wire(wire, asked));
            }
        }
        due(OUT, () -> x.wire(-1, 0));
        due(OUT, () -> x.wire(4, 0));
        due(OUT, () -> x.wire(4, 9));
        due(ILLEGAL, () -> x.wire(3, -1));
        due(ILLEGAL, () -> x.wire(3, 5));
        promise(7);
        int[] operands = {0, 0, 1, 0};
        for (int k = 0; k < 4; k++) {
            int asked = k;
            due(operands[k], () -> x.operand(2, asked));
        }
        due(2, () -> x.operand(3, 0));
        due(1, () -> x.operand(3, 1));
        due(2, () -> x.operand(3, 2));
        due(NONE, () -> x.operand(3, 3));
        due(NONE, () -> x.operand(3, -1));
        due(NONE, () -> x.operand(0, 0));
        due(OUT, () -> x.operand(4, 0));
        due(OUT, () -> x.operand(-1, -1));
    }

    /** What the gates give for two operands, 0 x 1 each; the second operand changes fastest. */
    private static void gates() {
        promise(8);
        String[] kinds = {"and", "or", "nand", "nor", "xor", "xnor"};
        int[][] table = {
            {0, 0, 0, 0, 2, 2, 0, 2, 1}, {0, 2, 1, 2, 2, 1, 1, 1, 1}, {1, 1, 1, 1, 2, 2, 1, 2, 0},
            {1, 2, 0, 2, 2, 0, 0, 0, 0}, {0, 2, 1, 2, 2, 2, 1, 2, 0}, {1, 2, 0, 2, 2, 2, 0, 2, 1}
        };
        String pairs = "test 0 0;test 0 x;test 0 1;test x 0;test x x;test x 1;test 1 0;test 1 x;test 1 1;";
        for (int kind = 0; kind < kinds.length; kind++) {
            FaultTests x = of("circuit 2;gate " + kinds[kind] + " 0 1;" + pairs);
            for (int t = 0; t < 9; t++) {
                int test = t;
                due(table[kind][t], () -> x.value(test, 2));
            }
        }
        FaultTests one = of("circuit 1;gate not 0;gate buf 0;test 0;test 1;test x;");
        int[][] single = {{0, 1, 0}, {1, 0, 1}, {2, 2, 2}};
        for (int t = 0; t < 3; t++) {
            for (int w = 0; w < 3; w++) {
                int test = t;
                int wire = w;
                due(single[t][w], () -> one.value(test, wire));
            }
        }
        String many = "circuit 4;gate xor 0 1 2 3;gate and 0 1 2 3;gate or 0 1 2 3;gate xnor 0 1 2;"
                + "test 1 1 1 1;test 1 1 1 0;test 0 0 0 0;test 0 1 x 0;test 0 0 0 1;";
        int[][] wide = {{0, 1, 1, 0}, {1, 0, 1, 0}, {0, 0, 0, 1}, {2, 0, 1, 2}, {1, 0, 1, 1}};
        FaultTests four = of(many);
        for (int t = 0; t < 5; t++) {
            for (int g = 0; g < 4; g++) {
                int test = t;
                int gate = 4 + g;
                due(wide[t][g], () -> four.value(test, gate));
            }
        }
        FaultTests mux = of("circuit 3;gate mux 0 1 2;test 0 0 1;test 0 1 0;test 1 0 1;test 1 1 0;test x 0 0;"
                + "test x 1 1;test x 0 1;test x 1 0;test x x x;test 0 x 1;test 1 0 x;test 0 1 x;test x 1 x;");
        int[] chosen = {0, 1, 1, 0, 0, 1, 2, 2, 2, 2, 2, 1, 2};
        for (int t = 0; t < chosen.length; t++) {
            int test = t;
            due(chosen[t], () -> mux.value(test, 3));
        }
        due(OUT, () -> mux.value(13, 0));
        due(OUT, () -> mux.value(-1, 0));
        due(OUT, () -> mux.value(0, 4));
        due(OUT, () -> mux.value(0, -1));
    }

    private static void faults() {
        promise(9);
        FaultTests x = of("circuit 3;gate and 0 1;gate or 3 2;output 4;"
                + "bridge and 0 1;bridge or 0 1;bridge or 2 3;test 1 0 0;test x 1 0;test 1 1 x;");
        due(1, () -> x.faulty(0, 3, 1));
        due(1, () -> x.faulty(0, 3, 3));
        due(1, () -> x.faulty(0, 3, 4));
        due(1, () -> x.faulty(0, 7, 4));
        due(0, () -> x.faulty(0, 7, 1));
        due(0, () -> x.faulty(1, 6, 4));
        due(2, () -> x.faulty(1, 6, 0));
        due(1, () -> x.faulty(0, 9, 4));
        due(0, () -> x.faulty(0, 9, 3));
        due(0, () -> x.faulty(0, 10, 0));
        due(0, () -> x.faulty(0, 10, 1));
        due(1, () -> x.faulty(0, 11, 0));
        due(1, () -> x.faulty(0, 11, 1));
        due(1, () -> x.faulty(0, 11, 3));
        due(2, () -> x.faulty(1, 10, 1));
        due(1, () -> x.faulty(1, 11, 0));
        due(1, () -> x.faulty(2, 12, 2));
        due(1, () -> x.faulty(2, 12, 3));
        due(0, () -> x.faulty(0, 12, 2));
        due(OUT, () -> x.faulty(3, 0, 0));
        due(OUT, () -> x.faulty(0, 13, 0));
        due(OUT, () -> x.faulty(0, -1, 0));
        due(OUT, () -> x.faulty(0, 0, 5));
        due(OUT, () -> x.faulty(-1, 0, 0));
        due(OUT, () -> x.faulty(0, 0, -1));
    }

    private static void finding() {
        promise(10);
        FaultTests x = and();
        int[][] finds = {{2, 0, 2, 0, 2, 0}, {0, 2, 0, 0, 0, 2}};
        for (int t = 0; t < 2; t++) {
            for (int f = 0; f < 6; f++) {
                int test = t;
                int fault = f;
                due(finds[t][f], () -> x.finds(test, fault));
            }
        }
        FaultTests y = of("circuit 2;gate and 0 1;output 2;bridge or 0 1;test 0 x;test x 1;test 1 x;");
        due(1, () -> y.finds(0, 1));
        due(0, () -> y.finds(0, 3));
        due(2, () -> y.finds(0, 5));
        due(1, () -> y.finds(0, 6));
        due(0, () -> y.finds(1, 0));
        due(0, () -> y.finds(2, 4));
        FaultTests both = of("circuit 2;gate and 0 1;output 2 0;test 0 x;");
        due(2, () -> both.finds(0, 1));
        due(OUT, () -> y.finds(3, 0));
        due(OUT, () -> y.finds(0, 7));
        due(OUT, () -> y.finds(-1, 0));
        due(OUT, () -> y.finds(0, -1));
        promise(11);
        due(true, () -> x.tellsApart(0, 0, 1));
        due(false, () -> x.tellsApart(0, 0, 2));
        due(false, () -> x.tellsApart(0, 0, 0));
        due(true, () -> x.tellsApart(1, 1, 3));
        due(false, () -> x.tellsApart(1, 1, 5));
        due(false, () -> y.tellsApart(0, 1, 5));
        due(true, () -> y.tellsApart(1, 1, 4));
        due(OUT, () -> x.tellsApart(2, 0, 0));
        due(OUT, () -> x.tellsApart(0, 6, 0));
        due(OUT, () -> x.tellsApart(0, 0, 6));
        due(OUT, () -> x.tellsApart(0, 0, -1));
        promise(12);
        due(3, () -> x.worth(0));
        due(2, () -> x.worth(1));
        due(OUT, () -> x.worth(2));
        due(OUT, () -> x.worth(-1));
        due(0, () -> of("circuit 2;gate and 0 1;test 1 1;").worth(0));
    }

    private static void fullTests() {
        FaultTests x = and();
        promise(13);
        int[] first = {3, 2, 3, 1, 3, 0};
        for (int f = 0; f < 6; f++) {
            int fault = f;
            due(first[f], () -> x.testFor(fault));
        }
        due(OUT, () -> x.testFor(6));
        due(OUT, () -> x.testFor(-1));
        FaultTests constant = of("circuit 1;gate not 0;gate or 0 1;output 2;");
        due(-1, () -> constant.testFor(5));
        due(0, () -> constant.testFor(4));
        FaultTests eight = of("circuit 8;gate and 0 1 2 3;gate and 4 5 6 7;gate and 8 9;output 10;"
                + "test 1 1 1 1 1 1 1 1;");
        due(255, () -> eight.testFor(0));
        due(254, () -> eight.testFor(1));
        due(127, () -> eight.testFor(15));
        due(191, () -> eight.testFor(13));
        due(240, () -> eight.testFor(17));
        due(0, () -> eight.testFor(21));
        promise(14);
        due(1, () -> x.testBetween(1, 3));
        due(1, () -> x.testBetween(3, 1));
        due(0, () -> x.testBetween(1, 5));
        due(2, () -> x.testBetween(0, 1));
        due(-1, () -> x.testBetween(0, 2));
        due(-1, () -> x.testBetween(5, 5));
        due(127, () -> eight.testBetween(13, 15));
        due(191, () -> eight.testBetween(13, 14));
        due(OUT, () -> x.testBetween(0, 6));
        due(OUT, () -> x.testBetween(6, 0));
        due(OUT, () -> x.testBetween(0, -1));
        promise(15);
        due(0, x::hidden);
        due(4, constant::hidden);
        due(6, () -> of("circuit 3;").hidden());
        promise(16);
        int[] alike = {0, 1, 0, 3, 0, 5};
        for (int f = 0; f < 6; f++) {
            int fault = f;
            due(alike[f], () -> x.alike(fault));
        }
        due(OUT, () -> x.alike(6));
        due(OUT, () -> x.alike(-1));
        due(2, () -> constant.alike(2));
        due(0, () -> constant.alike(5));
        promise(17);
        due(4, x::classes);
        due(1, () -> of("circuit 3;").classes());
        due(4, () -> of("circuit 2;output 0;bridge and 0 1;").classes());
        due(3, constant::classes);
    }

    private static void sharesAndSets() {
        promise(18);
        FaultTests x = and();
        due(5.0 / 6.0, x::coverage);
        due(1.0, () -> new FaultTests().coverage());
        due(1.0, () -> of("circuit 2;gate and 0 1;test 1 1;").coverage());
        due(0.0, () -> of("circuit 2;gate and 0 1;output 2;").coverage());
        due(2.0 / 6.0, () -> of("circuit 2;gate and 0 1;output 2;test 0 1;").coverage());
        due(0.5, () -> of("circuit 1;gate not 0;gate or 0 1;output 2;test 1;").coverage());
        promise(19);
        due(3, x::leastSet);
        due(0, () -> of("circuit 2;gate and 0 1;output 2;").leastSet());
        due(0, () -> of("circuit 2;gate and 0 1;test 1 1;").leastSet());
        due(6, () -> of("circuit 2;gate and 0 1;output 2;test x 0;test 1 1;test 0 1;test 0 1;test 1 1;").leastSet());
        due(5, () -> of("circuit 2;gate and 0 1;output 2;test 1 1;test x 0;test 0 1;test x 1;").leastSet());
        due(8, () -> of("circuit 1;gate not 0;output 0 1;test x;test x;test x;test 1;test 1;").leastSet());
        due(7, () -> of("circuit 2;gate and 0 1;output 2;test 1 0;test 0 1;test 1 1;test 0 0;").leastSet());
        due(4, () -> of("circuit 2;output 0 1;test 0 x;test x 0;test 0 0;").leastSet());
    }

    private static void suspects() {
        promise(20);
        FaultTests x = and();
        due(7, x::suspects);
        x.see(0, 0, 0);
        due(3, x::suspects);
        promise(21);
        due(0, () -> x.suspect(0));
        due(2, () -> x.suspect(1));
        due(4, () -> x.suspect(2));
        due(NONE, () -> x.suspect(3));
        due(NONE, () -> x.suspect(-1));
        x.see(0, 0, 1);
        promise(20);
        due(4, x::suspects);
        promise(21);
        due(-1, () -> x.suspect(0));
        due(1, () -> x.suspect(1));
        due(5, () -> x.suspect(3));
        due(NONE, () -> x.suspect(4));
        x.see(1, 0, 1);
        due(1, () -> x.suspect(0));
        due(5, () -> x.suspect(1));
        promise(20);
        due(2, x::suspects);
        FaultTests unknown = of("circuit 2;gate and 0 1;output 2;test 1 x;");
        unknown.see(0, 0, 1);
        due(4, unknown::suspects);
        unknown.see(0, 0, 0);
        due(5, unknown::suspects);
    }

    private static void nextTest() {
        promise(22);
        due(-1, () -> new FaultTests().nextTest());
        due(-1, () -> of("circuit 2;gate and 0 1;output 2;").nextTest());
        due(0, () -> of("circuit 2;gate and 0 1;test 1 1;test 0 1;").nextTest());
        FaultTests x = and();
        due(0, x::nextTest);
        x.see(0, 0, 1);
        due(1, x::nextTest);
        x.see(1, 0, 1);
        due(0, x::nextTest);
        FaultTests alone = of("circuit 1;gate not 0;output 0 1;test 0;test 1;");
        alone.see(1, 0, 1);
        alone.see(1, 1, 1);
        due(1, alone::suspects);
        due(-1, alone::nextTest);
        alone.see(0, 0, 1);
        due(0, alone::suspects);
        due(-1, alone::nextTest);
        FaultTests apart = of("circuit 2;gate and 0 1;output 2;test 1 1;test 1 x;test x 1;");
        due(1, apart::nextTest);
    }

    private static void changingTests() {
        promise(23);
        FaultTests x = and();
        due(2, () -> x.addTest(1, 2));
        due(1, () -> x.value(2, 0));
        due(2, () -> x.value(2, 1));
        due(2, () -> x.value(2, 2));
        due(3, () -> x.addTest(0, 0));
        due(ILLEGAL, () -> x.addTest(4, 0));
        due(ILLEGAL, () -> x.addTest(0, 4));
        due(ILLEGAL, () -> x.addTest(-1, 0));
        due(ILLEGAL, () -> x.addTest(0, -1));
        due(ILLEGAL, () -> x.addTest(3, 1));
        due(ILLEGAL, () -> x.addTest(Integer.MIN_VALUE, 0));
        due(4, () -> x.state(5));
        for (int n = 4; n < 16; n++) {
            int index = n;
            due(index, () -> x.addTest(3, 0));
        }
        due(STATE, () -> x.addTest(0, 0));
        due(ILLEGAL, () -> x.addTest(1, 1));
        due(16, () -> x.state(5));
        due(0, () -> of("circuit 8;").addTest(255, 0));
        due(0, () -> of("circuit 8;").addTest(0, 255));
        due(ILLEGAL, () -> of("circuit 8;").addTest(256, 0));
        promise(24);
        FaultTests y = of("circuit 1;output 0;test 0;test 1;test x;");
        y.see(0, 0, 0);
        y.see(1, 0, 1);
        y.see(2, 0, 0);
        due(2, () -> y.removeTest(1));
        due(0, () -> y.value(0, 0));
        due(2, () -> y.value(1, 0));
        due(2, () -> y.state(6));
        due(2, y::suspects);
        due(OUT, () -> y.removeTest(2));
        due(OUT, () -> y.removeTest(-1));
        due(1, () -> y.removeTest(0));
        due(1, () -> y.state(6));
        due(2, () -> y.value(0, 0));
        due(0, () -> y.removeTest(0));
        due(0, () -> y.state(6));
        due(0, () -> y.addTest(1, 0));
        due(0, () -> y.state(6));
        due(3, y::suspects);
    }

    private static void changingKinds() {
        promise(25);
        FaultTests x = of("circuit 3;gate and 0 1;gate not 3;gate mux 0 1 2;gate or 0 1 2 3;output 3;test 1 0 0;");
        x.see(0, 0, 1);
        due(OUT, () -> x.setKind(7, 0));
        due(OUT, () -> x.setKind(-1, 9));
        due(ILLEGAL, () -> x.setKind(0, 0));
        due(ILLEGAL, () -> x.setKind(2, 7));
        due(ILLEGAL, () -> x.setKind(3, 9));
        due(ILLEGAL, () -> x.setKind(3, -1));
        due(ILLEGAL, () -> x.setKind(3, 6));
        due(ILLEGAL, () -> x.setKind(3, 8));
        due(ILLEGAL, () -> x.setKind(4, 0));
        due(ILLEGAL, () -> x.setKind(4, 8));
        due(ILLEGAL, () -> x.setKind(5, 7));
        due(ILLEGAL, () -> x.setKind(6, 8));
        due(0, () -> x.setKind(3, 1));
        due(1, () -> x.value(0, 3));
        due(1, () -> x.wire(3, 0));
        due(1, () -> x.state(6));
        due(1, () -> x.setKind(3, 1));
        due(6, () -> x.setKind(4, 7));
        due(1, () -> x.value(0, 4));
        due(8, () -> x.setKind(5, 4));
        due(1, () -> x.value(0, 5));
        due(4, () -> x.setKind(5, 8));
        due(0, () -> x.value(0, 5));
        due(1, () -> x.setKind(6, 5));
        due(1, () -> x.value(0, 6));
        FaultTests y = and();
        due(5, () -> y.state(7));
        due(3, () -> y.testFor(0));
        due(0, () -> y.setKind(2, 1));
        due(2, () -> y.state(7));
        due(1, () -> y.testFor(0));
        due(1, () -> y.alike(3));
        due(4, () -> y.alike(4));
        due(2.0 / 6.0, y::coverage);
    }

    private static void seeing() {
        promise(26);
        FaultTests x = and();
        due(3, () -> x.see(0, 0, 0));
        due(7, () -> x.see(0, 0, 2));
        due(4, () -> x.see(0, 0, 1));
        due(2, () -> x.see(1, 0, 1));
        due(2, () -> x.state(6));
        due(OUT, () -> x.see(2, 0, 0));
        due(OUT, () -> x.see(-1, 0, 0));
        due(OUT, () -> x.see(0, 1, 0));
        due(OUT, () -> x.see(0, -1, 0));
        due(OUT, () -> x.see(2, 0, 3));
        due(OUT, () -> x.see(0, 1, -1));
        due(ILLEGAL, () -> x.see(0, 0, 3));
        due(ILLEGAL, () -> x.see(0, 0, -1));
        due(2, x::suspects);
        promise(27);
        due(2, x::forget);
        due(0, () -> x.state(6));
        due(7, x::suspects);
        due(0, x::forget);
        due(6, x::undo);
        due(0, () -> x.state(6));
        due(5, x::undo);
        due(2, () -> x.state(6));
        due(2, x::suspects);
    }

    private static void completing() {
        promise(28);
        FaultTests x = and();
        due(1, x::complete);
        due(1, () -> x.value(2, 0));
        due(0, () -> x.value(2, 1));
        due(1.0, x::coverage);
        due(0, x::complete);
        due(2, x::undo);
        due(3, () -> x.state(5));
        due(1, x::undo);
        due(2, () -> x.state(5));
        FaultTests none = of("circuit 2;gate and 0 1;output 2;");
        due(3, none::complete);
        int[][] added = {{1, 1}, {1, 0}, {0, 1}};
        for (int t = 0; t < 3; t++) {
            for (int w = 0; w < 2; w++) {
                int test = t;
                int wire = w;
                due(added[t][w], () -> none.value(test, wire));
            }
        }
        due(6, () -> none.state(7));
        due(1, none::undo);
        due(0, () -> none.state(5));
        due(1, () -> of("circuit 1;gate not 0;gate or 0 1;output 2;").complete());
        due(0, () -> of("circuit 2;gate and 0 1;").complete());
        FaultTests full = of("circuit 2;gate and 0 1;output 2;" + "test x x;".repeat(15));
        due(1, full::complete);
        due(16, () -> full.state(5));
        due(3, () -> full.state(7));
        due(0, full::complete);
        FaultTests seven = of("circuit 7;output 6;test 0 0 0 0 0 0 0;");
        due(1, seven::complete);
        due(1, () -> seven.value(1, 6));
        due(0, () -> seven.value(1, 0));
    }

    private static void undoing() {
        promise(29);
        FaultTests x = and();
        due(0, x::undo);
        due(1, () -> x.state(1));
        due(-1, x::undo);
        FaultTests y = and();
        for (int n = 0; n < 9; n++) {
            y.addTest(n & 3, 0);
        }
        for (int n = 7; n >= 0; n--) {
            int left = n;
            due(left, y::undo);
            due(3 + left, () -> y.state(5));
        }
        due(-1, y::undo);
        due(3, () -> y.state(5));
        due(3, () -> y.state(1));
        FaultTests z = and();
        z.see(1, 0, 1);
        z.setKind(2, 3);
        z.removeTest(1);
        due(ILLEGAL, () -> z.addTest(-1, 0));
        due(FaultTests.SYNTAX_ERROR, () -> read(z, "circuit"));
        put(z, "circuit 3;");
        due(0, () -> z.state(6));
        due(3, z::undo);
        due(7, z::errorOffset);
        due(2, () -> z.state(5));
        due(1, () -> z.state(6));
        due(3, () -> z.wire(2, 0));
        due(2, z::undo);
        due(0, () -> z.wire(2, 0));
        due(2, z::suspects);
        due(1, z::undo);
        due(0, () -> z.state(6));
        due(3, () -> z.load(10));
        due(0, () -> z.state(5));
        due(1, z::undo);
        due(3, () -> z.state(1));
        due(2, () -> z.state(5));
        due(2, () -> z.state(0));
    }

    private static long fold(int... numbers) {
        long sum = 0;
        for (int n : numbers) {
            sum = 31 * sum + n;
        }
        return sum;
    }

    private static void checksum() {
        promise(30);
        due(fold(1, 1, 0, 2, 0, 0, 0, 0, 0, -1, 0, 0, 0, -1, 3), () -> new FaultTests().checksum());
        FaultTests x = and();
        due(fold(2, 3, 1, 6, 0, 2, 0, 5, 1, -1, 0, 0, 1, -1, -1, 0, 0, 1, -1, 0, 2, 1, 0, 0, 0, 1,
                1, 1, 1, 2, 3, 0, 1, 0, 2, 2, 7), x::checksum);
        x.see(1, 0, 0);
        due(fold(2, 3, 1, 6, 0, 2, 1, 5, 1, -1, 0, 0, 1, -1, -1, 0, 0, 1, -1, 0, 2, 1, 0, 0, 0, 1,
                1, 1, 1, 2, 3, 0, 1, 0, 0, 2, 5), x::checksum);
    }
}
