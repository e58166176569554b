/** How FaultTests is used; README.md shows this program and what it prints. */
public final class Example {
    public static void main(String[] args) {
        FaultTests x = new FaultTests();
        // Wires 0 and 1 are inputs, 2 is the and, 3 the not; fault 2 * w is wire w always 0, 2 * w + 1 always 1.
        System.out.println("wires: " + load(x, "circuit 2; gate and 0 1; gate not 2; output 3; bridge or 0 1;"));
        System.out.println("faults: " + x.state(3));

        System.out.println("new test: " + x.addTest(0b11, 0));
        System.out.println("new test with an unknown input: " + x.addTest(0, 0b10));
        System.out.println("test 0 finds fault 0: " + x.finds(0, 0));
        System.out.println("test 1 may find fault 1: " + x.finds(1, 1));
        System.out.println("coverage: " + x.coverage());
        System.out.println("tests added: " + x.complete());
        System.out.println("coverage: " + x.coverage());
        System.out.println("least set of tests: " + x.leastSet());

        System.out.println("suspects when test 2 gives 0 at output 0: " + x.see(2, 0, 0));
        System.out.println("the first suspect: " + x.suspect(0));
        System.out.println("the test to make next: " + x.nextTest());
        System.out.println("changes left to undo: " + x.undo());

        System.out.println("error: " + load(x, "circuit 2; gate and 0 2;"));
        System.out.println("at: " + x.errorOffset());
        try {
            x.value(9, 0);
        } catch (IndexOutOfBoundsException e) {
            System.out.println("there is no test 9");
        }
    }

    /** Puts a text into the input buffer, 20 bytes a call, and loads it; bytes behind its end are not read. */
    private static int load(FaultTests x, String text) {
        for (int start = 0; start < text.length(); start += 20) {
            x.append(word(text, start), word(text, start + 4), word(text, start + 8),
                    word(text, start + 12), word(text, start + 16));
        }
        return x.load(text.length());
    }

    /** Four bytes of the text as an int, the most significant one first. */
    private static int word(String text, int start) {
        int word = 0;
        for (int k = start; k < start + 4; k++) {
            word = word << 8 | (k < text.length() ? text.charAt(k) : ' ');
        }
        return word;
    }
}
