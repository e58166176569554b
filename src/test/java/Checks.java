import java.util.NoSuchElementException;

/** What the tests by hand have in common: answers held against those that are due, and texts that are loaded. */
abstract class Checks {
    static final String OUT = "throws.IndexOutOfBoundsException";
    static final String ILLEGAL = "throws.IllegalArgumentException";
    static final String STATE = "throws.IllegalStateException";
    static final String NONE = "throws.NoSuchElementException";
    static final int SYNTAX = FaultTests.SYNTAX_ERROR;
    static final int RANGE = FaultTests.OUT_OF_RANGE;
    static final int REPEATED = FaultTests.REPEATED;
    static final int LOOP = FaultTests.LOOP;
    static final int MANY = FaultTests.TOO_MANY;

    interface Call {
        Object make();
    }

    private static String about = "";
    private static int row = 0;
    private static int sentences = 0;
    private static int checks = 0;
    private static int wrong = 0;

    static void about(String what) {
        about = what;
        row = 0;
    }

    /** A test of its own for a sentence of the document; if it breaks off, the others still run. */
    static void sentence(String words, Runnable test) {
        about(words);
        sentences++;
        try {
            test.run();
        } catch (RuntimeException | AssertionError e) {
            wrong++;
            System.out.println(about + ", behind row " + row + ": broke off with " + e);
        }
    }

    static void due(Object want, Call call) {
        Object got;
        try {
            got = call.make();
        } catch (IndexOutOfBoundsException | IllegalArgumentException | IllegalStateException
                | NoSuchElementException e) {
            got = "throws." + e.getClass().getSimpleName();
        }
        checks++;
        row++;
        if (!want.equals(got)) {
            wrong++;
            System.out.println(about + ", row " + row + ": answered " + got + ", due is " + want);
        }
    }

    static void same(long want, long got) {
        due(want, () -> got);
    }

    static void same(double want, double got) {
        due(want, () -> got);
    }

    static void same(boolean want, boolean got) {
        due(want, () -> got);
    }

    static void finish() {
        String of = sentences == 0 ? "" : sentences + " sentences: ";
        System.out.println(of + (wrong == 0 ? checks + " answers are as due" : wrong + " answers are not as due"));
        if (wrong != 0) {
            System.exit(1);
        }
    }

    static void put(FaultTests x, String text) {
        for (int i = 0; i < text.length(); i += 20) {
            int[] w = new int[5];
            for (int k = 0; k < 20 && i + k < text.length(); k++) {
                w[k / 4] |= (text.charAt(i + k) & 255) << (24 - 8 * (k % 4));
            }
            x.append(w[0], w[1], w[2], w[3], w[4]);
        }
    }

    static int read(FaultTests x, String text) {
        put(x, text);
        return x.load(text.length());
    }

    static FaultTests of(String text) {
        FaultTests x = new FaultTests();
        if (read(x, text) < 0) {
            throw new AssertionError(text + " has an error at " + x.errorOffset());
        }
        return x;
    }

    /** The text has this error at this offset, and the data stay. */
    static void error(int code, int offset, String text) {
        FaultTests x = of("circuit 3;gate and 0 1;output 3;test 1 1 x;");
        x.see(0, 0, 1);
        long before = x.checksum();
        due(code, () -> read(x, text));
        due(offset, x::errorOffset);
        due(before, x::checksum);
        due(1, x::undo);
    }

    /** As error; the offset is that of the mark ^, which is no part of the text. */
    static void errorAt(int code, String marked) {
        int offset = marked.indexOf('^');
        error(code, offset, marked.substring(0, offset) + marked.substring(offset + 1));
    }

    static void fine(int wires, String text) {
        FaultTests x = new FaultTests();
        due(wires, () -> read(x, text));
        due(-1, x::errorOffset);
    }
}
