import java.util.Random;

/** Many setup texts, right and wrong ones, each read by the class and by the oracle. */
public final class TextsTest {
    private static final int TEXTS = 30000;

    public static void main(String[] args) {
        int wrong = 0;
        for (int n = 0; n < TEXTS && wrong == 0; n++) {
            String text = new TextMaker(new Random(7919L * n * n + 104729L * n + 5)).make();
            FaultTests x = new FaultTests();
            Oracle oracle = new Oracle();
            wrong += load(x, oracle, text) ? 0 : 1;
        }
        System.out.println(wrong == 0 ? TEXTS + " texts are read as due" : "a text is not read as due");
        if (wrong != 0) {
            System.exit(1);
        }
    }

    private static boolean load(FaultTests x, Oracle oracle, String text) {
        for (int i = 0; i < text.length(); i += 20) {
            int[] w = new int[5];
            for (int k = 0; k < 20 && i + k < text.length(); k++) {
                w[k / 4] |= text.charAt(i + k) << (24 - 8 * (k % 4));
            }
            x.append(w[0], w[1], w[2], w[3], w[4]);
            oracle.append(w);
        }
        int got = x.load(text.length());
        int due = oracle.load(text.length());
        if (got != due || x.errorOffset() != oracle.errorOffset() || x.checksum() != oracle.checksum()) {
            System.out.println(text + "\n   answered " + got + " at " + x.errorOffset()
                    + ", due is " + due + " at " + oracle.errorOffset());
            return false;
        }
        return true;
    }
}
