import java.math.BigInteger;
import java.nio.charset.StandardCharsets;
import java.util.ArrayDeque;
import java.util.ArrayList;
import java.util.Arrays;
import java.util.Deque;
import java.util.HashMap;
import java.util.List;
import java.util.Map;
import java.util.NoSuchElementException;

/**
 * The document once more, as slowly and as plainly as it can be written: one value at a time, every set
 * counted, every snapshot a copy. The random runs hold the class against it.
 */
final class Oracle {
    private static final String[] KINDS = {"and", "or", "nand", "nor", "xor", "xnor", "not", "buf", "mux"};

    private static final class Data {
        int inputs = 1;
        List<int[]> gates = new ArrayList<>();
        List<Integer> kinds = new ArrayList<>();
        List<Integer> outputs = new ArrayList<>();
        List<int[]> bridges = new ArrayList<>();
        List<int[]> tests = new ArrayList<>();
        List<int[]> seen = new ArrayList<>();

        Data copy() {
            Data d = new Data();
            d.inputs = inputs;
            d.gates = new ArrayList<>(gates);
            d.kinds = new ArrayList<>(kinds);
            d.outputs = new ArrayList<>(outputs);
            d.bridges = new ArrayList<>(bridges);
            d.tests = new ArrayList<>(tests);
            for (int[] row : seen) {
                d.seen.add(row.clone());
            }
            return d;
        }

        int wires() {
            return inputs + gates.size();
        }

        int faults() {
            return 2 * wires() + bridges.size();
        }

        boolean depends(int wire, int on) {
            if (wire < inputs) {
                return false;
            }
            for (int operand : gates.get(wire - inputs)) {
                if (operand == on || depends(operand, on)) {
                    return true;
                }
            }
            return false;
        }

        void addTest(int[] values) {
            tests.add(values);
            int[] row = new int[6];
            Arrays.fill(row, 2);
            seen.add(row);
        }
    }

    private static final class TextError extends RuntimeException {
        private static final long serialVersionUID = 1;
        final int code;
        final int offset;

        TextError(int code, int offset) {
            this.code = code;
            this.offset = offset;
        }
    }

    private Data data = new Data();
    private final Deque<Data> past = new ArrayDeque<>();
    private byte[] buffer = new byte[0];
    private int errorOffset = -1;

    // ---- the text

    private static final class Tokens {
        final List<String> words = new ArrayList<>();
        final List<Integer> starts = new ArrayList<>();
        int at = 0;

        Tokens(String text) {
            int i = 0;
            while (i < text.length()) {
                char c = text.charAt(i);
                int end = i + 1;
                if (c == ' ') {
                    i++;
                    continue;
                }
                if (c >= '0' && c <= '9') {
                    while (end < text.length() && text.charAt(end) >= '0' && text.charAt(end) <= '9') {
                        end++;
                    }
                } else if (c >= 'a' && c <= 'z') {
                    while (end < text.length() && text.charAt(end) >= 'a' && text.charAt(end) <= 'z') {
                        end++;
                    }
                }
                words.add(text.substring(i, end));
                starts.add(i);
                i = end;
            }
            words.add("");
            starts.add(text.length());
        }

        String word() {
            return words.get(at);
        }

        boolean isNumber() {
            return !word().isEmpty() && Character.digit(word().charAt(0), 10) >= 0 && word().charAt(0) < 128;
        }

        TextError error(int code) {
            return new TextError(code, starts.get(at));
        }

        void expect(String word) {
            if (!word().equals(word)) {
                throw error(-2);
            }
            at++;
        }

        int number(int least, int most) {
            if (!isNumber()) {
                throw error(-2);
            }
            BigInteger n = new BigInteger(word());
            if (n.compareTo(BigInteger.valueOf(least)) < 0 || n.compareTo(BigInteger.valueOf(most)) > 0) {
                throw error(-3);
            }
            at++;
            return n.intValue();
        }
    }

    private static Data parse(String text) {
        Tokens t = new Tokens(text);
        Data d = new Data();
        t.expect("circuit");
        d.inputs = t.number(1, 8);
        t.expect(";");
        while (!t.word().isEmpty()) {
            switch (t.word()) {
                case "gate" -> parseGate(t, d);
                case "output" -> parseOutput(t, d);
                case "bridge" -> parseBridge(t, d);
                case "test" -> parseTest(t, d);
                default -> throw t.error(-2);
            }
            t.expect(";");
        }
        return d;
    }

    private static boolean arityFits(int kind, int operands) {
        if (kind == 6 || kind == 7) {
            return operands == 1;
        }
        if (kind == 8) {
            return operands == 3;
        }
        return operands >= 2 && operands <= 4;
    }

    private static void parseGate(Tokens t, Data d) {
        if (d.gates.size() == 16) {
            throw t.error(-6);
        }
        t.at++;
        int kind = Arrays.asList(KINDS).indexOf(t.word());
        if (kind < 0) {
            throw t.error(-2);
        }
        t.at++;
        int most = kind == 8 ? 3 : kind >= 6 ? 1 : 4;
        List<Integer> operands = new ArrayList<>();
        while (t.isNumber() && operands.size() < most) {
            operands.add(t.number(0, d.wires() - 1));
        }
        if (!arityFits(kind, operands.size())) {
            throw t.error(-2);
        }
        d.kinds.add(kind);
        d.gates.add(operands.stream().mapToInt(i -> i).toArray());
    }

    private static void parseOutput(Tokens t, Data d) {
        t.at++;
        do {
            int wire = t.number(0, d.wires() - 1);
            t.at--;
            if (d.outputs.contains(wire)) {
                throw t.error(-4);
            }
            if (d.outputs.size() == 6) {
                throw t.error(-6);
            }
            t.at++;
            d.outputs.add(wire);
        } while (t.isNumber());
    }

    private static void parseBridge(Tokens t, Data d) {
        if (d.bridges.size() == 8) {
            throw t.error(-6);
        }
        t.at++;
        boolean or = t.word().equals("or");
        t.expect(or ? "or" : "and");
        int a = t.number(0, d.wires() - 1);
        int b = t.number(0, d.wires() - 1);
        if (a == b || d.depends(a, b) || d.depends(b, a)) {
            t.at--;
            throw t.error(-5);
        }
        d.bridges.add(new int[] {or ? 1 : 0, a, b});
    }

    private static void parseTest(Tokens t, Data d) {
        if (d.tests.size() == 16) {
            throw t.error(-6);
        }
        t.at++;
        int[] values = new int[d.inputs];
        for (int i = 0; i < d.inputs; i++) {
            if (t.word().equals("x")) {
                values[i] = 2;
                t.at++;
            } else {
                values[i] = t.number(0, 1);
            }
        }
        d.addTest(values);
    }

    // ---- the values

    private static int invert(int v) {
        return v == 2 ? 2 : 1 - v;
    }

    private static int gate(int kind, int[] in) {
        boolean zero = false;
        boolean one = false;
        boolean unknown = false;
        int ones = 0;
        for (int v : in) {
            zero |= v == 0;
            one |= v == 1;
            unknown |= v == 2;
            ones += v == 1 ? 1 : 0;
        }
        switch (kind) {
            case 0:
                return zero ? 0 : unknown ? 2 : 1;
            case 1:
                return one ? 1 : unknown ? 2 : 0;
            case 2:
                return invert(gate(0, in));
            case 3:
                return invert(gate(1, in));
            case 4:
                return unknown ? 2 : ones % 2;
            case 5:
                return invert(gate(4, in));
            case 6:
                return invert(in[0]);
            case 7:
                return in[0];
            default:
                return in[0] == 0 ? in[1] : in[0] == 1 ? in[2] : in[1] == in[2] ? in[1] : 2;
        }
    }

    private int[] values(int[] inputs, int fault) {
        int wires = data.wires();
        int[] told = new int[wires];
        Arrays.fill(told, -1);
        if (fault >= 2 * wires) {
            int[] good = values(inputs, -1);
            int[] bridge = data.bridges.get(fault - 2 * wires);
            int joined = gate(bridge[0], new int[] {good[bridge[1]], good[bridge[2]]});
            told[bridge[1]] = joined;
            told[bridge[2]] = joined;
        } else if (fault >= 0) {
            told[fault / 2] = fault % 2;
        }
        int[] v = new int[wires];
        for (int w = 0; w < wires; w++) {
            if (told[w] >= 0) {
                v[w] = told[w];
            } else if (w < data.inputs) {
                v[w] = inputs[w];
            } else {
                int[] in = data.gates.get(w - data.inputs).clone();
                for (int k = 0; k < in.length; k++) {
                    in[k] = v[in[k]];
                }
                v[w] = gate(data.kinds.get(w - data.inputs), in);
            }
        }
        return v;
    }

    private int[] outputs(int[] inputs, int fault) {
        int[] v = values(inputs, fault);
        int[] out = new int[data.outputs.size()];
        for (int o = 0; o < out.length; o++) {
            out[o] = v[data.outputs.get(o)];
        }
        return out;
    }

    private static boolean differ(int[] a, int[] b) {
        for (int o = 0; o < a.length; o++) {
            if (a[o] != 2 && b[o] != 2 && a[o] != b[o]) {
                return true;
            }
        }
        return false;
    }

    private int[] full(int number) {
        int[] values = new int[data.inputs];
        for (int k = 0; k < values.length; k++) {
            values[k] = (number >> k) & 1;
        }
        return values;
    }

    /** For each fault (one later, as the circuit without a fault comes first) its outputs for each full test. */
    private int[][][] allFull() {
        int[][][] all = new int[data.faults() + 1][1 << data.inputs][];
        for (int f = -1; f < data.faults(); f++) {
            for (int n = 0; n < 1 << data.inputs; n++) {
                all[f + 1][n] = outputs(full(n), f);
            }
        }
        return all;
    }

    private static int firstDifferent(int[][] a, int[][] b) {
        for (int n = 0; n < a.length; n++) {
            if (differ(a[n], b[n])) {
                return n;
            }
        }
        return -1;
    }

    private boolean found(int test, int fault) {
        int[] inputs = data.tests.get(test);
        return differ(outputs(inputs, -1), outputs(inputs, fault));
    }

    private long foundSet(int test) {
        long set = 0;
        for (int f = 0; f < data.faults(); f++) {
            if (found(test, f)) {
                set |= 1L << f;
            }
        }
        return set;
    }

    private long foundByAny() {
        long set = 0;
        for (int t = 0; t < data.tests.size(); t++) {
            set |= foundSet(t);
        }
        return set;
    }

    private List<Integer> fitting() {
        List<Integer> list = new ArrayList<>();
        for (int f = -1; f < data.faults(); f++) {
            boolean fits = true;
            for (int t = 0; t < data.tests.size(); t++) {
                int[] out = outputs(data.tests.get(t), f);
                for (int o = 0; o < out.length; o++) {
                    int s = data.seen.get(t)[o];
                    fits &= s == 2 || out[o] == 2 || out[o] == s;
                }
            }
            if (fits) {
                list.add(f);
            }
        }
        return list;
    }

    private void remember() {
        past.addLast(data.copy());
        if (past.size() > 8) {
            past.removeFirst();
        }
    }

    private void needWire(int wire) {
        if (wire < 0 || wire >= data.wires()) {
            throw new IndexOutOfBoundsException();
        }
    }

    private void needTest(int test) {
        if (test < 0 || test >= data.tests.size()) {
            throw new IndexOutOfBoundsException();
        }
    }

    private void needFault(int fault) {
        if (fault < 0 || fault >= data.faults()) {
            throw new IndexOutOfBoundsException();
        }
    }

    // ---- the face

    int append(int... words) {
        if (buffer.length + 20 > 800) {
            return -1;
        }
        byte[] longer = Arrays.copyOf(buffer, buffer.length + 20);
        for (int i = 0; i < 20; i++) {
            longer[buffer.length + i] = (byte) (words[i / 4] >> (24 - 8 * (i % 4)));
        }
        buffer = longer;
        return buffer.length;
    }

    int load(int length) {
        if (length < 0 || length > buffer.length) {
            throw new IllegalArgumentException();
        }
        String text = new String(buffer, 0, length, StandardCharsets.ISO_8859_1);
        buffer = new byte[0];
        try {
            Data read = parse(text);
            remember();
            data = read;
            errorOffset = -1;
            return data.wires();
        } catch (TextError e) {
            errorOffset = e.offset;
            return e.code;
        }
    }

    int errorOffset() {
        return errorOffset;
    }

    int state(int what) {
        switch (what) {
            case 0:
                return data.inputs;
            case 1:
                return data.wires();
            case 2:
                return data.outputs.size();
            case 3:
                return data.faults();
            case 4:
                return data.bridges.size();
            case 5:
                return data.tests.size();
            case 6:
                int seen = 0;
                for (int[] row : data.seen) {
                    for (int v : row) {
                        seen += v != 2 ? 1 : 0;
                    }
                }
                return seen;
            case 7:
                return Long.bitCount(foundByAny());
            case 8:
                int most = 0;
                for (int w = 0; w < data.wires(); w++) {
                    most = Math.max(most, wire(w, 2));
                }
                return most;
            default:
                throw new IllegalArgumentException();
        }
    }

    int wire(int wire, int what) {
        needWire(wire);
        int[] operands = wire < data.inputs ? new int[0] : data.gates.get(wire - data.inputs);
        switch (what) {
            case 0:
                return wire < data.inputs ? -1 : data.kinds.get(wire - data.inputs);
            case 1:
                return operands.length;
            case 2:
                int level = 0;
                for (int o : operands) {
                    level = Math.max(level, wire(o, 2) + 1);
                }
                return level;
            case 3:
                int uses = 0;
                for (int[] gate : data.gates) {
                    for (int o : gate) {
                        uses += o == wire ? 1 : 0;
                    }
                }
                return uses;
            case 4:
                return data.outputs.indexOf(wire);
            default:
                throw new IllegalArgumentException();
        }
    }

    int operand(int wire, int k) {
        needWire(wire);
        if (k < 0 || k >= wire(wire, 1)) {
            throw new NoSuchElementException();
        }
        return data.gates.get(wire - data.inputs)[k];
    }

    int value(int test, int wire) {
        needTest(test);
        needWire(wire);
        return values(data.tests.get(test), -1)[wire];
    }

    int faulty(int test, int fault, int wire) {
        needTest(test);
        needFault(fault);
        needWire(wire);
        return values(data.tests.get(test), fault)[wire];
    }

    int finds(int test, int fault) {
        needTest(test);
        needFault(fault);
        if (found(test, fault)) {
            return 2;
        }
        int[] good = outputs(data.tests.get(test), -1);
        int[] bad = outputs(data.tests.get(test), fault);
        for (int o = 0; o < good.length; o++) {
            if (good[o] != 2 && bad[o] == 2) {
                return 1;
            }
        }
        return 0;
    }

    boolean tellsApart(int test, int fault, int other) {
        needTest(test);
        needFault(fault);
        needFault(other);
        int[] inputs = data.tests.get(test);
        return differ(outputs(inputs, fault), outputs(inputs, other));
    }

    int worth(int test) {
        needTest(test);
        return Long.bitCount(foundSet(test));
    }

    int testFor(int fault) {
        needFault(fault);
        int[][][] all = allFull();
        return firstDifferent(all[0], all[fault + 1]);
    }

    int testBetween(int fault, int other) {
        needFault(fault);
        needFault(other);
        int[][][] all = allFull();
        return firstDifferent(all[fault + 1], all[other + 1]);
    }

    int hidden() {
        int[][][] all = allFull();
        int count = 0;
        for (int f = 0; f < data.faults(); f++) {
            count += firstDifferent(all[0], all[f + 1]) < 0 ? 1 : 0;
        }
        return count;
    }

    private static int firstAlike(int[][][] all, int fault) {
        for (int f = 0; f <= fault; f++) {
            if (firstDifferent(all[f + 1], all[fault + 1]) < 0) {
                return f;
            }
        }
        throw new AssertionError();
    }

    int alike(int fault) {
        needFault(fault);
        return firstAlike(allFull(), fault);
    }

    int classes() {
        int[][][] all = allFull();
        int count = 0;
        for (int f = 0; f < data.faults(); f++) {
            count += firstAlike(all, f) == f ? 1 : 0;
        }
        return count;
    }

    double coverage() {
        int[][][] all = allFull();
        long findable = 0;
        for (int f = 0; f < data.faults(); f++) {
            if (firstDifferent(all[0], all[f + 1]) >= 0) {
                findable |= 1L << f;
            }
        }
        if (findable == 0) {
            return 1.0;
        }
        return (double) Long.bitCount(findable & foundByAny()) / (double) Long.bitCount(findable);
    }

    int leastSet() {
        int n = data.tests.size();
        long[] found = new long[n];
        for (int t = 0; t < n; t++) {
            found[t] = foundSet(t);
        }
        long all = foundByAny();
        int best = -1;
        for (int set = 0; set < 1 << n; set++) {
            long union = 0;
            for (int t = 0; t < n; t++) {
                union |= (set >> t & 1) != 0 ? found[t] : 0;
            }
            if (union == all && (best < 0 || Integer.bitCount(set) < Integer.bitCount(best))) {
                best = set;
            }
        }
        return best;
    }

    int suspects() {
        return fitting().size();
    }

    int suspect(int k) {
        List<Integer> list = fitting();
        if (k < 0 || k >= list.size()) {
            throw new NoSuchElementException();
        }
        return list.get(k);
    }

    int nextTest() {
        List<Integer> list = fitting();
        int best = -1;
        int bestPart = Integer.MAX_VALUE;
        for (int t = 0; list.size() >= 2 && t < data.tests.size(); t++) {
            Map<String, Integer> parts = new HashMap<>();
            int part = 0;
            for (int f : list) {
                part = Math.max(part, parts.merge(Arrays.toString(outputs(data.tests.get(t), f)), 1, Integer::sum));
            }
            if (part < bestPart) {
                best = t;
                bestPart = part;
            }
        }
        return best;
    }

    int addTest(int ones, int unknowns) {
        int[] values = new int[data.inputs];
        for (int k = 0; k < 32; k++) {
            int one = ones >> k & 1;
            int unknown = unknowns >> k & 1;
            if (k >= data.inputs && one + unknown > 0 || one + unknown > 1) {
                throw new IllegalArgumentException();
            }
            if (k < data.inputs) {
                values[k] = one + 2 * unknown;
            }
        }
        if (data.tests.size() == 16) {
            throw new IllegalStateException();
        }
        remember();
        data.addTest(values);
        return data.tests.size() - 1;
    }

    int removeTest(int test) {
        needTest(test);
        remember();
        data.tests.remove(test);
        data.seen.remove(test);
        return data.tests.size();
    }

    int setKind(int wire, int kind) {
        needWire(wire);
        if (wire < data.inputs || kind < 0 || kind > 8 || !arityFits(kind, wire(wire, 1))) {
            throw new IllegalArgumentException();
        }
        remember();
        return data.kinds.set(wire - data.inputs, kind);
    }

    int see(int test, int output, int value) {
        needTest(test);
        if (output < 0 || output >= data.outputs.size()) {
            throw new IndexOutOfBoundsException();
        }
        if (value < 0 || value > 2) {
            throw new IllegalArgumentException();
        }
        remember();
        data.seen.get(test)[output] = value;
        return suspects();
    }

    int forget() {
        int count = state(6);
        remember();
        for (int[] row : data.seen) {
            Arrays.fill(row, 2);
        }
        return count;
    }

    int complete() {
        remember();
        int[][][] all = allFull();
        int added = 0;
        while (data.tests.size() < 16) {
            long found = foundByAny();
            int best = -1;
            int most = 0;
            for (int n = 0; n < 1 << data.inputs; n++) {
                int gain = 0;
                for (int f = 0; f < data.faults(); f++) {
                    gain += (found >> f & 1) == 0 && differ(all[0][n], all[f + 1][n]) ? 1 : 0;
                }
                if (gain > most) {
                    best = n;
                    most = gain;
                }
            }
            if (best < 0) {
                break;
            }
            data.addTest(full(best));
            added++;
        }
        return added;
    }

    int undo() {
        if (past.isEmpty()) {
            return -1;
        }
        data = past.removeLast();
        return past.size();
    }

    long checksum() {
        List<Integer> numbers = new ArrayList<>();
        for (int what = 0; what <= 8; what++) {
            numbers.add(state(what));
        }
        for (int w = 0; w < data.wires(); w++) {
            for (int what = 0; what <= 4; what++) {
                numbers.add(wire(w, what));
            }
            for (int k = 0; k < wire(w, 1); k++) {
                numbers.add(operand(w, k));
            }
        }
        for (int t = 0; t < data.tests.size(); t++) {
            for (int w = 0; w < data.wires(); w++) {
                numbers.add(value(t, w));
            }
            for (int o = 0; o < data.outputs.size(); o++) {
                numbers.add(data.seen.get(t)[o]);
            }
            numbers.add(worth(t));
        }
        numbers.add(suspects());
        long sum = 0;
        for (int n : numbers) {
            sum = 31 * sum + n;
        }
        return sum;
    }
}
