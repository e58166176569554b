import java.util.Arrays;
import java.util.Random;

/** Makes setup texts: right ones, ones at the limits, and ones with errors. */
final class TextMaker {
    private static final String[] KINDS = {"and", "or", "nand", "nor", "xor", "xnor", "not", "buf", "mux"};
    private static final String[] PIECES = {
        "circuit", "gate", "output", "bridge", "test", "and", "or", "nand", "nor", "xor", "xnor", "not", "buf",
        "mux", "x", "xx", "circuits", "gat", "0", "1", "2", "3", "7", "8", "9", "16", "24", "00", "0001",
        "99999999999999999999", "4294967296", "18446744073709551617", ";", ";;", " ", "   ", "-", "A", "\n", "\t", "\0",
        "\u00ff", "{", "`", "/", ":"
    };

    private final Random random;
    /** Whether the text may have errors in what its numbers mean. */
    private boolean careless = false;
    /** For each wire the set of the wires on which it depends. */
    private final int[] below = new int[32];

    TextMaker(Random random) {
        this.random = random;
    }

    String make() {
        String text = good();
        if (random.nextInt(3) == 0) {
            text = spoil(text);
        }
        return text.length() > 800 ? text.substring(0, 800) : text;
    }

    private String number(int n) {
        return random.nextInt(12) == 0 ? "0".repeat(1 + random.nextInt(4)) + n : "" + n;
    }

    private String space() {
        return random.nextInt(15) == 0 ? " ".repeat(random.nextInt(3)) + " " : " ";
    }

    private String good() {
        careless = random.nextInt(4) == 0;
        int inputs = random.nextInt(4) == 0 ? 1 + random.nextInt(8) : 1 + random.nextInt(4);
        int wires = inputs;
        int allTests = 0;
        Arrays.fill(below, 0);
        StringBuilder text = new StringBuilder("circuit" + space() + number(inputs) + ";");
        int gates = random.nextInt(4) == 0 ? 16 : random.nextInt(8);
        if (careless && random.nextInt(6) == 0) {
            gates = 17;
        }
        for (int g = 0; g < gates; g++) {
            int kind = random.nextInt(9);
            int operands = kind == 8 ? 3 : kind >= 6 ? 1 : 2 + random.nextInt(random.nextInt(4) == 0 ? 3 : 1);
            text.append("gate").append(space()).append(KINDS[kind]);
            for (int k = 0; k < operands; k++) {
                int from = random.nextInt(3) == 0 ? Math.max(0, wires - 1 - random.nextInt(3)) : random.nextInt(wires);
                below[wires] |= below[from] | 1 << from;
                text.append(k == 0 && random.nextBoolean() ? "" : space()).append(number(from));
            }
            text.append(";");
            wires++;
            if (random.nextInt(10) == 0) {
                allTests++;
                text.append(test(inputs));
            }
        }
        text.append(outputs(wires));
        int bridges = random.nextInt(3) == 0 ? random.nextInt(careless ? 10 : 9) : random.nextInt(3);
        for (int b = 0; b < bridges; b++) {
            text.append(bridge(wires));
        }
        int tests = random.nextInt(5) == 0 ? random.nextInt(18) : random.nextInt(6);
        for (int t = 0; t < tests && (careless || allTests < 16); t++) {
            allTests++;
            text.append(test(inputs));
        }
        return text.toString();
    }

    private String outputs(int wires) {
        StringBuilder text = new StringBuilder();
        int count = random.nextInt(careless ? 8 : 7);
        boolean open = false;
        int told = 0;
        for (int o = 0; o < count; o++) {
            int wire = random.nextInt(3) == 0 ? random.nextInt(wires) : Math.max(0, wires - 1 - o);
            if (careless && random.nextInt(30) == 0) {
                wire = wires;
            }
            if (!careless && (told >> wire & 1) != 0) {
                continue;
            }
            told |= 1 << wire;
            text.append(open ? " " : "output ").append(number(wire));
            open = random.nextInt(3) != 0;
            if (!open) {
                text.append(";");
            }
        }
        return text.append(open ? ";" : "").toString();
    }

    private String bridge(int wires) {
        int first = 0;
        int second = 0;
        for (int tries = 0; tries < 20; tries++) {
            first = random.nextInt(wires);
            second = random.nextInt(wires);
            boolean loop = first == second || (below[first] >> second & 1) != 0 || (below[second] >> first & 1) != 0;
            if (careless || !loop) {
                String kind = random.nextBoolean() ? "and" : "or";
                return "bridge " + kind + space() + number(first) + " " + number(second) + ";";
            }
        }
        return "";
    }

    private String test(int inputs) {
        StringBuilder text = new StringBuilder("test");
        for (int i = 0; i < inputs; i++) {
            int value = random.nextInt(5);
            text.append(" ").append(value < 2 ? "0" : value < 4 ? "1" : "x");
        }
        return text.append(";").toString();
    }

    private String spoil(String text) {
        String result = text;
        for (int n = random.nextInt(3); n >= 0; n--) {
            int at = random.nextInt(result.length() + 1);
            int to = Math.min(result.length(), at + random.nextInt(4));
            switch (random.nextInt(4)) {
                case 0 -> result = result.substring(0, at);
                case 1 -> result = result.substring(0, at) + result.substring(to);
                case 2 -> result = result.substring(0, at) + PIECES[random.nextInt(PIECES.length)] + result.substring(at);
                default -> result = result.substring(0, at) + PIECES[random.nextInt(PIECES.length)] + result.substring(to);
            }
        }
        return result;
    }
}
