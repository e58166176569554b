import java.util.Random;

/** Makes setup texts: right ones, ones at the limits, and ones with errors. */
final class TextMaker {
    private static final String[] KINDS = {"and", "or", "nand", "nor", "xor", "xnor", "not", "buf", "mux"};
    private static final String[] PIECES = {
        "circuit", "gate", "output", "bridge", "test", "and", "or", "nand", "nor", "xor", "xnor", "not", "buf",
        "mux", "x", "xx", "circuits", "gat", "0", "1", "2", "3", "7", "8", "9", "16", "24", "00", "0001",
        "99999999999999999999", "4294967296", "18446744073709551617", ";", ";;", " ", "   ", "-", "A", "\n", "\t", "\0",
        "\u00ff", "{", "`", "/", ":"
    };

    private final Random random;

    TextMaker(Random random) {
        this.random = random;
    }

    String make() {
        String text = good();
        if (random.nextInt(3) == 0) {
            text = spoil(text);
        }
        return text.length() > 800 ? text.substring(0, 800) : text;
    }

    private String number(int n) {
        return random.nextInt(12) == 0 ? "0".repeat(1 + random.nextInt(4)) + n : "" + n;
    }

    private String space() {
        return random.nextInt(15) == 0 ? " ".repeat(random.nextInt(3)) + " " : " ";
    }

    String good() {
        int inputs = random.nextInt(4) == 0 ? 1 + random.nextInt(8) : 1 + random.nextInt(4);
        int wires = inputs;
        StringBuilder text = new StringBuilder("circuit" + space() + number(inputs) + ";");
        int gates = random.nextInt(4) == 0 ? 16 : random.nextInt(8);
        if (random.nextInt(25) == 0) {
            gates = 17;
        }
        for (int g = 0; g < gates; g++) {
            int kind = random.nextInt(9);
            int operands = kind == 8 ? 3 : kind >= 6 ? 1 : 2 + random.nextInt(random.nextInt(4) == 0 ? 3 : 1);
            text.append("gate").append(space()).append(KINDS[kind]);
            for (int k = 0; k < operands; k++) {
                int from = random.nextInt(3) == 0 ? Math.max(0, wires - 1 - random.nextInt(3)) : random.nextInt(wires);
                text.append(k == 0 && random.nextBoolean() ? "" : space()).append(number(from));
            }
            text.append(";");
            wires++;
            if (random.nextInt(10) == 0) {
                text.append(test(inputs));
            }
        }
        text.append(outputs(wires));
        int bridges = random.nextInt(3) == 0 ? random.nextInt(10) : random.nextInt(3);
        for (int b = 0; b < bridges; b++) {
            text.append("bridge ").append(random.nextBoolean() ? "and" : "or").append(space());
            text.append(number(random.nextInt(wires))).append(" ").append(number(random.nextInt(wires))).append(";");
        }
        int tests = random.nextInt(5) == 0 ? random.nextInt(18) : random.nextInt(6);
        for (int t = 0; t < tests; t++) {
            text.append(test(inputs));
        }
        return text.toString();
    }

    private String outputs(int wires) {
        StringBuilder text = new StringBuilder();
        int count = random.nextInt(8);
        boolean open = false;
        for (int o = 0; o < count; o++) {
            if (!open) {
                text.append("output");
            }
            int wire = random.nextInt(30) == 0 ? wires : random.nextInt(3) == 0 ? random.nextInt(wires) : wires - 1 - o;
            text.append(" ").append(number(Math.max(0, wire)));
            open = random.nextInt(3) != 0;
            if (!open) {
                text.append(";");
            }
        }
        return text.append(open ? ";" : "").toString();
    }

    private String test(int inputs) {
        StringBuilder text = new StringBuilder("test");
        for (int i = 0; i < inputs; i++) {
            int value = random.nextInt(5);
            text.append(" ").append(value < 2 ? "0" : value < 4 ? "1" : "x");
        }
        return text.append(";").toString();
    }

    private String spoil(String text) {
        String result = text;
        for (int n = random.nextInt(3); n >= 0; n--) {
            int at = random.nextInt(result.length() + 1);
            int to = Math.min(result.length(), at + random.nextInt(4));
            switch (random.nextInt(4)) {
                case 0 -> result = result.substring(0, at);
                case 1 -> result = result.substring(0, at) + result.substring(to);
                case 2 -> result = result.substring(0, at) + PIECES[random.nextInt(PIECES.length)] + result.substring(at);
                default -> result = result.substring(0, at) + PIECES[random.nextInt(PIECES.length)] + result.substring(to);
            }
        }
        return result;
    }
}
