/** Setup texts at the limits of the document. */
final class Circuits {
    /** Eight inputs, 16 buffers in a row, six outputs, eight bridges and 16 tests with all ones. */
    static final String FULL = "circuit 8;gate buf 0;" + chain("buf", 9, 15) + "output 18 19 20 21 22 23;"
            + "bridge and 0 1;".repeat(8) + "test 1 1 1 1 1 1 1 1;".repeat(16);

    private Circuits() {
    }

    /** Gates with one operand, the first one with this index and each with the wire before it as its operand. */
    static String chain(String kind, int first, int count) {
        StringBuilder text = new StringBuilder();
        for (int gate = first; gate < first + count; gate++) {
            text.append("gate ").append(kind).append(gate - 1).append(';');
        }
        return text.toString();
    }

    /**
     * Each of the 16 tests finds a fault that no other finds: that a gate has never its rare value, or that one
     * of its own branches (the buffers and nots) has always the value 1.
     */
    static String allTestsNeeded() {
        return "circuit 8;gate buf0;gate buf1;gate buf2;gate buf3;gate and8 9 10 11;"
                + "gate not0;gate not1;gate not4;gate not5;gate and13 14 15 16;"
                + "gate buf4;gate buf5;gate buf6;gate and18 19 20 7;gate or2 6;output12 17 21 22;"
                + "test1 1 1 1x x x x;test0 1 1 1x x x x;test1 0 1 1x x x x;test1 1 0 1x x x x;test1 1 1 0x x x x;"
                + "test0 0x x 0 0x x;test1 0x x 0 0x x;test0 1x x 0 0x x;test0 0x x 1 0x x;test0 0x x 0 1x x;"
                + "test x x x x 1 1 1 1;test x x x x 0 1 1 1;test x x x x 1 0 1 1;test x x x x 1 1 0 1;"
                + "test x x x x 1 1 1 0;test x x 0x x x 0x;";
    }

    /**
     * 17 full tests are needed to find all that can be found: eight with a single 0 in one half (for the eight
     * buffers), one for each of the four gates with eight operands in all, and five with a single 1 in one half
     * (for the bridges).
     */
    static String tooManyTestsNeeded() {
        return "circuit 8;gate buf0;gate buf1;gate buf2;gate buf3;gate buf4;gate buf5;gate buf6;gate buf7;"
                + "gate and8 9 10 11;gate and12 13 14 15;gate and16 17;"
                + "gate nor0 1 2 3;gate nor4 5 6 7;gate nand19 20;gate and19 17;gate and16 20;output18 21 22 23;"
                + "bridge and0 1;bridge and0 2;bridge and0 3;bridge and1 2;bridge and1 3;bridge and2 3;"
                + "bridge and4 5;bridge and6 7;";
    }
}
