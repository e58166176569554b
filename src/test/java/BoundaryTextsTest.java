import java.util.Arrays;

/** Each sentence about the setup text that names a boundary case has a test of its own here. */
public final class BoundaryTextsTest extends Checks {
    private static final String[] KINDS = {"and", "or", "nand", "nor", "xor", "xnor", "not", "buf", "mux"};
    private static final int[] FEWEST = {2, 2, 2, 2, 2, 2, 1, 1, 3};
    private static final int[] MOST = {4, 4, 4, 4, 4, 4, 1, 1, 3};
    /** Around the ranges of int and long, some so far above that a wrap-around would make 0 or 1 of them. */
    private static final String[] HUGE = {
        "2147483647", "2147483648", "4294967295", "4294967296", "4294967297", "9223372036854775807",
        "9223372036854775808", "18446744073709551616", "18446744073709551617", "9".repeat(300), "1" + "0".repeat(300)
    };
    private static final String GATES = "circuit 1;" + "gate buf 0;".repeat(15);
    private static final String BRIDGES = "circuit 2;" + "bridge and 0 1;".repeat(7);
    private static final String TESTS = "circuit 1;" + "test 0;".repeat(15);

    public static void main(String[] args) {
        buffer();
        grammar();
        gates();
        testValues();
        numbers();
        words();
        runs();
        spaces();
        meanings();
        firstOfSeveral();
        sameOffset();
        wrongTokens();
        tooManyAndTooFew();
        endOfText();
        outOfRange();
        repeated();
        loops();
        tooManyStatements();
        tooManyOutputs();
        finish();
    }

    private static void buffer() {
        sentence("The setup text is read from an input buffer of at most 800 bytes.", () -> {
            String start = "circuit 1;" + " ".repeat(800 - 19);
            same(1, of(start + "output 0;").state(2));
            error(SYNTAX, 799, start + "output 0");
            error(SYNTAX, 799, start + "output 0!");
            error(SYNTAX, 800, " ".repeat(800));
            error(SYNTAX, 800, " ".repeat(791) + "circuit 8");
            error(SYNTAX, 800, " ".repeat(793) + "circuit");
        });
    }

    private static void grammar() {
        sentence("setup = \"circuit\" number \";\" { statement \";\" }", () -> {
            fine(1, "circuit 1;");
            fine(1, "circuit 1;output 0;");
            fine(1, "circuit 1;output 0;test 1;");
            errorAt(SYNTAX, "^output 0;");
            errorAt(SYNTAX, "circuit 1;^circuit 1;");
            errorAt(SYNTAX, "circuit 1;^;");
            errorAt(SYNTAX, "circuit^;");
            errorAt(SYNTAX, "circuit 1;output 0;^;");
        });
        sentence("\"output\" number { number }", () -> {
            errorAt(SYNTAX, "circuit 8;output^;");
            fine(8, "circuit 8;output 7;");
            fine(8, "circuit 8;output 7 6;");
            fine(8, "circuit 8;output 7 6 5 4 3 2;");
        });
        sentence("\"bridge\" ( \"and\" | \"or\" ) number number", () -> {
            for (int kind = 0; kind < 9; kind++) {
                if (kind < 2) {
                    fine(8, "circuit 8;bridge " + KINDS[kind] + " 6 7;");
                } else {
                    errorAt(SYNTAX, "circuit 8;bridge ^" + KINDS[kind] + " 6 7;");
                }
            }
            errorAt(SYNTAX, "circuit 8;bridge ^6 7;");
            errorAt(SYNTAX, "circuit 8;bridge and^;");
            errorAt(SYNTAX, "circuit 8;bridge and 6^;");
            errorAt(SYNTAX, "circuit 8;bridge and 6 7 ^5;");
        });
    }

    private static void gates() {
        sentence("\"gate\" kind number { number }, with as many operands as the kind has", () -> {
            for (int kind = 0; kind < 9; kind++) {
                String gate = "circuit 8;gate " + KINDS[kind];
                for (int count = 0; count < FEWEST[kind]; count++) {
                    errorAt(SYNTAX, gate + " 7".repeat(count) + "^;");
                }
                for (int count = FEWEST[kind]; count <= MOST[kind]; count++) {
                    fine(9, gate + " 7".repeat(count) + ";");
                }
                errorAt(SYNTAX, gate + " 7".repeat(MOST[kind]) + " ^7;");
            }
        });
        sentence("kind = \"and\" | .. | \"mux\"", () -> {
            for (int kind = 0; kind < 9; kind++) {
                same(kind, of("circuit 1;gate " + KINDS[kind] + " 0".repeat(FEWEST[kind]) + ";").wire(1, 0));
                errorAt(SYNTAX, "circuit 1;gate ^" + KINDS[kind] + "s 0 0 0;");
                errorAt(SYNTAX, "circuit 1;gate ^" + KINDS[kind].replaceFirst(".$", "") + " 0 0 0;");
            }
            errorAt(SYNTAX, "circuit 1;gate ^0 0 0;");
            errorAt(SYNTAX, "circuit 1;gate ^x 0 0;");
            errorAt(SYNTAX, "circuit 1;gate^;");
        });
    }

    private static void testValues() {
        sentence("\"test\" value { value }, as many as there are inputs", () -> {
            for (int inputs = 1; inputs <= 8; inputs++) {
                String start = "circuit " + inputs + ";test";
                fine(inputs, start + " 1".repeat(inputs) + ";");
                fine(inputs, start + " x".repeat(inputs) + ";");
                errorAt(SYNTAX, start + " 1".repeat(inputs - 1) + "^;");
                errorAt(SYNTAX, start + " 1".repeat(inputs) + " ^1;");
                errorAt(SYNTAX, start + " 1".repeat(inputs) + " ^x;");
            }
        });
        sentence("value = number | \"x\"", () -> {
            same(2, of("circuit 1;test x;").value(0, 0));
            for (String other : new String[] {"w", "y", "X", "and", "test", "-1", "?"}) {
                errorAt(SYNTAX, "circuit 1;test ^" + other + ";");
            }
        });
    }

    private static void numbers() {
        sentence("A number is a run of decimal digits, of any length.", () -> {
            for (String huge : HUGE) {
                errorAt(RANGE, "circuit ^" + huge + ";");
                errorAt(RANGE, "circuit 1;gate not ^" + huge + ";");
                errorAt(RANGE, "circuit 1;output ^" + huge + ";");
                errorAt(RANGE, "circuit 2;bridge and ^" + huge + " 0;");
                errorAt(RANGE, "circuit 2;bridge and 0 ^" + huge + ";");
                errorAt(RANGE, "circuit 1;test ^" + huge + ";");
            }
        });
        sentence("Leading zeros do not matter.", () -> {
            String zeros = "0".repeat(700);
            fine(8, "circuit " + zeros + "8;");
            errorAt(RANGE, "circuit ^" + zeros + "9;");
            errorAt(RANGE, "circuit ^" + zeros + ";");
            fine(2, "circuit 1;gate not " + zeros + ";");
            fine(2, "circuit 2;output " + zeros + "1;");
            fine(2, "circuit 2;bridge or " + zeros + " 01;");
            same(1, of("circuit 1;test " + zeros + "1;").value(0, 0));
            errorAt(RANGE, "circuit 1;test ^" + zeros + "2;");
        });
        sentence("A number is a run of decimal digits: the bytes beside 0 and 9 are none.", () -> {
            for (char sign : new char[] {'/', ':', '+', '-', '.', 0xB2}) {
                errorAt(SYNTAX, "circuit ^" + sign + "1;");
                errorAt(SYNTAX, "circuit 1^" + sign + ";");
            }
        });
    }

    private static void words() {
        sentence("A word is a run of the letters a to z: the bytes beside a and z are none.", () -> {
            for (char sign : new char[] {'`', '{', '@', '[', 'A', 'Z', 0xE9}) {
                errorAt(SYNTAX, "circuit 2;gate^" + sign + "not 0;");
                errorAt(SYNTAX, "circuit 2;^" + sign + "output 0;");
                errorAt(SYNTAX, "circuit 2;test 0^" + sign + "x;");
            }
            for (char sign : new char[] {'a', 'b', 'y', 'z'}) {
                errorAt(SYNTAX, "^circuit" + sign + " 2;");
                errorAt(SYNTAX, "circuit 2;^" + sign + "output 0;");
                errorAt(SYNTAX, "circuit 2;test 0 ^x" + sign + ";");
            }
            errorAt(SYNTAX, "^Circuit 2;");
            errorAt(SYNTAX, "^cirCuit 2;");
        });
    }

    private static void runs() {
        sentence("Each run is as long as possible.", () -> {
            errorAt(RANGE, "circuit ^12;");
            errorAt(RANGE, "circuit 2;output ^10;");
            errorAt(SYNTAX, "circuit 2;test 01^;");
            errorAt(SYNTAX, "circuit 2;test ^xx;");
            errorAt(SYNTAX, "circuit 2;^gatenot 0;");
            errorAt(SYNTAX, "circuit 1;^testx;");
            errorAt(SYNTAX, "^circuitx 2;");
            errorAt(SYNTAX, "circuit 2;gate ^andx 0 1;");
        });
    }

    private static void spaces() {
        sentence("Spaces (byte 32) may precede any token and may follow the last one.", () -> {
            String[] tokens = "circuit 2 ; gate and 0 1 ; output 2 0 ; bridge or 0 1 ; test 1 x ;".split(" ");
            for (String gap : new String[] {" ", "  ", "           "}) {
                fine(3, gap + String.join(gap, tokens) + gap);
            }
            fine(3, String.join(" ", tokens).replace(" ;", ";").replace("; ", ";"));
        });
        sentence("A word and a number side by side need none between them.", () -> {
            FaultTests x = of("circuit2;gate and0 1;output2;bridge or0 1;test1x;test x0;");
            same(3, x.state(1));
            same(1, x.state(2));
            same(1, x.state(4));
            int[][] values = {{1, 2}, {2, 0}};
            for (int test = 0; test < 2; test++) {
                same(values[test][0], x.value(test, 0));
                same(values[test][1], x.value(test, 1));
            }
        });
        sentence("No other byte separates tokens.", () -> {
            fine(1, "circuit 1; output 0; ");
            for (char sign = 0; sign < 256; sign++) {
                if (sign != ' ') {
                    error(SYNTAX, 10, "circuit 1;" + sign + "output 0;");
                    error(SYNTAX, 19, "circuit 1;output 0;" + sign);
                }
            }
        });
    }

    private static void meanings() {
        sentence("The number of circuit is that of its inputs.", () -> {
            for (int inputs = 1; inputs <= 8; inputs++) {
                same(inputs, of("circuit " + inputs + ";").state(0));
            }
        });
        sentence("The numbers of gate, output and bridge are wires that were told before (inputs are).", () -> {
            fine(3, "circuit 1;gate not 0;gate not 1;");
            errorAt(RANGE, "circuit 1;gate not ^1;gate not 0;");
            errorAt(RANGE, "circuit 1;gate not 0;gate not ^2;");
            fine(2, "circuit 1;output 0;gate not 0;output 1;");
            errorAt(RANGE, "circuit 1;output ^1;gate not 0;");
            fine(3, "circuit 2;gate not 0;bridge and 1 2;bridge or 2 1;");
            errorAt(RANGE, "circuit 2;bridge and 1 ^2;gate not 0;");
            errorAt(RANGE, "circuit 2;bridge and ^2 1;gate not 0;");
        });
        sentence("The values of test are those of the inputs in their order: 0, 1, or x for unknown.", () -> {
            FaultTests x = of("circuit 8;test 0 1 x 1 0 x 1 0;test 1 0 x 0 1 x x 1;");
            int[][] values = {{0, 1, 2, 1, 0, 2, 1, 0}, {1, 0, 2, 0, 1, 2, 2, 1}};
            for (int test = 0; test < 2; test++) {
                for (int input = 0; input < 8; input++) {
                    same(values[test][input], x.value(test, input));
                }
            }
            errorAt(RANGE, "circuit 1;test ^2;");
            errorAt(RANGE, "circuit 8;test 0 1 0 1 0 1 0 ^2;");
        });
    }

    private static void firstOfSeveral() {
        sentence("The first error in the text is the one with the smallest offset.", () -> {
            errorAt(RANGE, "circuit ^9 9");
            errorAt(SYNTAX, "circuit ^x;output 9;");
            errorAt(RANGE, "circuit 2;gate and ^2 x;");
            errorAt(SYNTAX, "circuit 2;gate and 0^;output 9;");
            errorAt(REPEATED, "circuit 2;output 0 ^0 9 x");
            errorAt(RANGE, "circuit 2;output 0 ^9 0;");
            errorAt(LOOP, "circuit 2;bridge and 0 ^0 9;");
            errorAt(RANGE, "circuit 2;bridge and ^9 9;bridge and 0 0;");
            errorAt(MANY, TESTS + "test 0;^test 0;?");
            errorAt(SYNTAX, TESTS + "^?test 0;test 0;");
            errorAt(RANGE, "circuit 2;test ^2 2 2;");
        });
    }

    private static void sameOffset() {
        sentence("If several kinds of error have the same offset, the first one in this list counts: SYNTAX_ERROR, "
                + "OUT_OF_RANGE", () -> {
            for (int kind = 0; kind < 9; kind++) {
                errorAt(SYNTAX, "circuit 8;gate " + KINDS[kind] + " 7".repeat(MOST[kind]) + " ^9;");
            }
            errorAt(SYNTAX, "circuit 2;bridge and 0 1 ^2;");
            errorAt(SYNTAX, "circuit 2;test 0 1 ^2;");
            errorAt(SYNTAX, "circuit 2 ^9;");
        });
        sentence("If several kinds of error have the same offset, the first one in this list counts: OUT_OF_RANGE, "
                + "REPEATED, TOO_MANY", () -> {
            String six = "circuit 8;output 0 1 2 3 4 5 ";
            errorAt(MANY, six + "^6;");
            errorAt(REPEATED, six + "^5;");
            errorAt(RANGE, six + "^8;");
            errorAt(SYNTAX, six + "^x;");
        });
        sentence("If several kinds of error have the same offset, the first one in this list counts: OUT_OF_RANGE, "
                + "LOOP", () -> {
            errorAt(RANGE, "circuit 2;bridge and 0 ^2;gate not 0;");
            errorAt(LOOP, "circuit 2;gate not 0;bridge and 0 ^2;");
            errorAt(SYNTAX, "circuit 2;bridge and 0 ^x;");
        });
    }

    private static void wrongTokens() {
        sentence("SYNTAX_ERROR: a token or byte that the grammar does not allow here, at its first byte", () -> {
            String[] right = "circuit 2 ; gate and 0 1 ; output 2 ; bridge or 0 1 ; test 1 x ;".split(" ");
            for (int k = 0; k < right.length; k++) {
                String start = String.join(" ", Arrays.copyOf(right, k)) + " ";
                errorAt(SYNTAX, start + "^circuits 2;");
                errorAt(SYNTAX, start + "^?2;");
                if (!right[k].equals(";")) {
                    errorAt(SYNTAX, start + "^;");
                }
                boolean wantsNumber = Character.isDigit(right[k].charAt(0)) || right[k].equals("x");
                if (!wantsNumber && !right[k].equals(";")) {
                    errorAt(SYNTAX, start + "^1;");
                }
            }
        });
    }

    private static void tooManyAndTooFew() {
        sentence("SYNTAX_ERROR: also an operand or a value too many", () -> {
            fine(9, "circuit 8;gate and 1 2 3 4;");
            errorAt(SYNTAX, "circuit 8;gate and 1 2 3 4 ^5;");
            fine(9, "circuit 8;gate mux 1 2 3;");
            errorAt(SYNTAX, "circuit 8;gate mux 1 2 3 ^4;");
            fine(9, "circuit 8;gate buf 1;");
            errorAt(SYNTAX, "circuit 8;gate buf 1 ^2;");
            fine(8, "circuit 8;test 1 0 1 0 1 0 1 0;");
            errorAt(SYNTAX, "circuit 8;test 1 0 1 0 1 0 1 0 ^1;");
            errorAt(SYNTAX, "circuit 8;test 1 0 1 0 1 0 1 0 ^x;");
        });
        sentence("SYNTAX_ERROR: and a semicolon behind too few", () -> {
            errorAt(SYNTAX, "circuit 8;gate xnor 1^;");
            errorAt(SYNTAX, "circuit 8;gate mux 1 2  ^;");
            errorAt(SYNTAX, "circuit 8;gate not^;");
            errorAt(SYNTAX, "circuit 8;test 1 0 1 0 1 0 1^;");
            errorAt(SYNTAX, "circuit 8;bridge or 1^;");
        });
    }

    private static void endOfText() {
        sentence("SYNTAX_ERROR: the end of the text, at its length, if the text ends too early", () -> {
            String[] tokens = "circuit 2 ; gate and 0 1 ; output 2 ; bridge or 0 1 ; test 1 x ;".split(" ");
            StringBuilder text = new StringBuilder();
            errorAt(SYNTAX, "^");
            for (String token : tokens) {
                text.append(' ').append(token);
                if (token.equals(";")) {
                    due(true, () -> read(new FaultTests(), text.toString()) >= 2);
                    due(true, () -> read(new FaultTests(), text + "   ") >= 2);
                } else {
                    errorAt(SYNTAX, text + "^");
                    errorAt(SYNTAX, text + "   ^");
                }
            }
        });
    }

    private static void outOfRange() {
        sentence("OUT_OF_RANGE: a number outside its range, at its first digit", () -> {
            errorAt(RANGE, "circuit   ^000;");
            fine(1, "circuit   001;");
            fine(8, "circuit8;");
            errorAt(RANGE, "circuit^9;");
            fine(24, "circuit 8;" + "gate buf 0;".repeat(15) + "gate mux 22 22 22;");
            errorAt(RANGE, "circuit 8;" + "gate buf 0;".repeat(15) + "gate mux 22 22   ^023;");
            fine(8, "circuit 8;output 7;");
            errorAt(RANGE, "circuit 8;output   ^08;");
            fine(8, "circuit 8;bridge and 7 6;bridge or 6 7;");
            errorAt(RANGE, "circuit 8;bridge and   ^08 6;");
            errorAt(RANGE, "circuit 8;bridge and 6   ^08;");
            fine(2, "circuit 2;test 0 1;");
            errorAt(RANGE, "circuit 2;test 0   ^02;");
            errorAt(RANGE, "circuit 2;test   ^02 0;");
        });
    }

    private static void repeated() {
        sentence("REPEATED: a wire that is an output already, at its first digit", () -> {
            fine(2, "circuit 2;output 0 1;");
            errorAt(REPEATED, "circuit 2;output 0   ^00;");
            errorAt(REPEATED, "circuit 2;output 0 1 ^0;");
            errorAt(REPEATED, "circuit 2;output 0 1 ^1;");
            fine(3, "circuit 2;output 1;gate not 0;output 2 0;");
            errorAt(REPEATED, "circuit 2;output 1;gate not 0;output 2 ^1;");
            errorAt(REPEATED, "circuit 8;output 7 6 5 4 3;output 2;output ^2;");
            fine(2, "circuit 2;output 0;output 1;");
        });
    }

    private static void loops() {
        sentence("LOOP: the second wire of a bridge, if it is the first one, at its first digit", () -> {
            fine(2, "circuit 2;bridge and 0 1;bridge or 1 0;");
            errorAt(LOOP, "circuit 2;bridge and 0   ^00;");
            errorAt(LOOP, "circuit 2;bridge or 1 ^1;");
            errorAt(LOOP, "circuit 2;gate not 0;bridge or 2 ^2;");
        });
        sentence("LOOP: or if one of them depends on the other", () -> {
            String chain = "circuit 2;gate not 0;gate and 1 2;gate mux 1 1 3;gate not 1;";
            for (String pair : new String[] {"0 1", "1 2", "2 1", "2 5", "5 0", "5 4", "3 5"}) {
                fine(6, chain + "bridge and " + pair + ";bridge or " + pair + ";");
            }
            for (String pair : new String[] {"0 ^2", "2 ^0", "0 ^3", "3 ^2", "0 ^4", "4 ^0", "2 ^4", "4 ^3", "1 ^3"}) {
                errorAt(LOOP, chain + "bridge and " + pair + ";");
            }
            errorAt(LOOP, chain + "bridge or 1 ^5;");
            errorAt(LOOP, chain + "bridge or 5 ^1;");
        });
        sentence("A wire depends on the operands of its gate, and on those on which these depend.", () -> {
            StringBuilder chain = new StringBuilder("circuit 8;");
            for (int gate = 8; gate < 24; gate++) {
                chain.append("gate and ").append(gate == 8 ? 7 : gate - 1).append(" 6;");
            }
            errorAt(LOOP, chain + "bridge and 7 ^23;");
            errorAt(LOOP, chain + "bridge and 23 ^7;");
            errorAt(LOOP, chain + "bridge and 6 ^23;");
            fine(24, chain + "bridge and 5 23;bridge or 23 0;");
        });
    }

    private static void tooManyStatements() {
        sentence("TOO_MANY: a 17th gate, at the first letter of its statement", () -> {
            fine(17, GATES + "gate buf 0;");
            errorAt(MANY, GATES + "gate buf 0;^gate buf 0;");
            errorAt(MANY, GATES + "gate buf 0;test 0;output 0;   ^gate buf 16;");
            errorAt(SYNTAX, GATES + "gate buf 0;^gat");
        });
        sentence("TOO_MANY: a 9th bridge, at the first letter of its statement", () -> {
            fine(2, BRIDGES + "bridge or 1 0;");
            errorAt(MANY, BRIDGES + "bridge or 1 0;^bridge or 1 0;");
            errorAt(MANY, BRIDGES + "bridge or 1 0;test 0 0;output 0;   ^bridge or 0 1;");
            errorAt(SYNTAX, BRIDGES + "bridge or 1 0;^bridg");
        });
        sentence("TOO_MANY: or a 17th test, at the first letter of its statement", () -> {
            fine(1, TESTS + "test x;");
            errorAt(MANY, TESTS + "test x;^test x;");
            errorAt(MANY, TESTS + "test x;output 0;   ^test 0;");
            errorAt(SYNTAX, TESTS + "test x;^tes");
        });
    }

    private static void tooManyOutputs() {
        sentence("TOO_MANY: a 7th output, at its first digit", () -> {
            fine(8, "circuit 8;output 0 1 2 3 4 5;");
            errorAt(MANY, "circuit 8;output 0 1 2 3 4 5   ^006;");
            errorAt(MANY, "circuit 8;output 0 1 2 3 4 5;output ^6;");
            errorAt(MANY, "circuit 8;output 0 1 2;output 3 4 5 ^6;");
            fine(8, "circuit 8;output 0 1 2;output 3;output 4 5;");
            errorAt(SYNTAX, "circuit 8;output 0 1 2 3 4 5;output^;");
        });
    }
}
