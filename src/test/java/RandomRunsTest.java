import java.util.NoSuchElementException;
import java.util.Random;
import java.util.function.Supplier;

/** Random runs of calls (always the same ones), each answer held against the oracle's. */
public final class RandomRunsTest {
    private static final int RUNS = 400;
    private static final int MOST_CALLS = 512;

    private final Random random;
    private final TextMaker texts;
    private final FaultTests x = new FaultTests();
    private final Oracle oracle = new Oracle();
    private final StringBuilder calls = new StringBuilder();
    private int made = 0;
    private int wrong = 0;

    private RandomRunsTest(long seed) {
        random = new Random(seed);
        texts = new TextMaker(random);
    }

    public static void main(String[] args) {
        int wrong = 0;
        for (int run = 0; run < RUNS && wrong == 0; run++) {
            RandomRunsTest test = new RandomRunsTest(1000003L * run + 17);
            test.run();
            wrong += test.wrong;
        }
        System.out.println(wrong == 0 ? RUNS + " random runs are as due" : "a random run is not as due");
        if (wrong != 0) {
            System.exit(1);
        }
    }

    private static Object answer(Supplier<Object> call) {
        try {
            return call.get();
        } catch (IndexOutOfBoundsException e) {
            return e.getClass() == IndexOutOfBoundsException.class ? "throws.IndexOutOfBoundsException" : e.toString();
        } catch (IllegalArgumentException | IllegalStateException | NoSuchElementException e) {
            return "throws." + e.getClass().getSimpleName();
        }
    }

    private Object same(String name, Supplier<Object> got, Supplier<Object> due) {
        made++;
        calls.append(name).append('\n');
        Object answer = answer(got);
        Object want = answer(due);
        if (!answer.equals(want)) {
            wrong++;
            System.out.println(calls + "   answered " + answer + ", due is " + want);
        }
        return want;
    }

    private void run() {
        while (made < MOST_CALLS && wrong == 0) {
            if (random.nextInt(60) == 0 || made == 0 && random.nextInt(10) != 0) {
                loadText();
            } else if (random.nextInt(3) == 0) {
                change();
            } else {
                ask();
            }
        }
    }

    private void loadText() {
        String text = texts.make();
        if (text.length() > 20 * (MOST_CALLS - made - 2)) {
            made = MOST_CALLS;
            return;
        }
        int length = 0;
        for (int i = 0; i < text.length(); i += 20) {
            int[] w = new int[5];
            for (int k = 0; k < 20; k++) {
                int sign = i + k < text.length() ? text.charAt(i + k) : random.nextInt(256);
                w[k / 4] |= sign << (24 - 8 * (k % 4));
            }
            same("append", () -> x.append(w[0], w[1], w[2], w[3], w[4]), () -> oracle.append(w));
            length += 20;
        }
        if (random.nextInt(8) == 0) {
            int wrongLength = random.nextBoolean() ? -1 - random.nextInt(9) : length + 1 + random.nextInt(9);
            same("load", () -> x.load(wrongLength), () -> oracle.load(wrongLength));
        }
        int used = random.nextInt(20) == 0 ? random.nextInt(text.length() + 1) : text.length();
        same("load " + text.substring(0, used), () -> x.load(used), () -> oracle.load(used));
        same("errorOffset()", x::errorOffset, oracle::errorOffset);
    }

    /** An index below the bound, or now and then a wrong one. */
    private int index(int bound) {
        int kind = random.nextInt(30);
        if (kind == 0 || bound <= 0) {
            int[] wrong = {-1, bound, bound + 1, Integer.MIN_VALUE, Integer.MAX_VALUE};
            return wrong[random.nextInt(wrong.length)];
        }
        return random.nextInt(bound);
    }

    private void change() {
        int test = index(oracle.state(5));
        int output = index(oracle.state(2));
        int wire = index(oracle.state(1));
        int kind = index(9);
        int value = index(3);
        int ones = index(1 << oracle.state(0));
        int unknowns = random.nextBoolean() ? 0 : random.nextInt(8) == 0 ? index(512) : index(1 << oracle.state(0)) & ~ones;
        int gate = oracle.state(0) + index(oracle.state(1) - oracle.state(0));
        switch (random.nextInt(12)) {
            case 0, 1 -> same("addTest(" + ones + ", " + unknowns + ")",
                    () -> x.addTest(ones, unknowns), () -> oracle.addTest(ones, unknowns));
            case 2 -> same("removeTest(" + test + ")", () -> x.removeTest(test), () -> oracle.removeTest(test));
            case 3 -> same("setKind(" + wire + ", " + kind + ")",
                    () -> x.setKind(wire, kind), () -> oracle.setKind(wire, kind));
            case 4 -> same("setKind(" + gate + ", " + kind + ")",
                    () -> x.setKind(gate, kind), () -> oracle.setKind(gate, kind));
            case 5, 6, 7 -> same("see(" + test + ", " + output + ", " + value + ")",
                    () -> x.see(test, output, value), () -> oracle.see(test, output, value));
            case 8 -> {
                if (random.nextInt(3) == 0) {
                    same("forget()", x::forget, oracle::forget);
                }
            }
            case 9 -> {
                if (random.nextInt(3) == 0) {
                    same("complete()", x::complete, oracle::complete);
                }
            }
            default -> same("undo()", x::undo, oracle::undo);
        }
    }

    private void ask() {
        int test = index(oracle.state(5));
        int wire = index(oracle.state(1));
        int fault = index(oracle.state(3));
        int other = index(oracle.state(3));
        int k = index(5);
        switch (random.nextInt(21)) {
            case 0 -> same("state", () -> x.state(k * 2 - test), () -> oracle.state(k * 2 - test));
            case 1 -> same("state(7)", () -> x.state(7), () -> oracle.state(7));
            case 2 -> same("wire(" + wire + ", " + k + ")", () -> x.wire(wire, k), () -> oracle.wire(wire, k));
            case 3 -> same("operand(" + wire + ", " + k + ")", () -> x.operand(wire, k), () -> oracle.operand(wire, k));
            case 4 -> same("value(" + test + ", " + wire + ")", () -> x.value(test, wire), () -> oracle.value(test, wire));
            case 5, 6 -> same("faulty(" + test + ", " + fault + ", " + wire + ")",
                    () -> x.faulty(test, fault, wire), () -> oracle.faulty(test, fault, wire));
            case 7, 8 -> same("finds(" + test + ", " + fault + ")",
                    () -> x.finds(test, fault), () -> oracle.finds(test, fault));
            case 9 -> same("tellsApart(" + test + ", " + fault + ", " + other + ")",
                    () -> x.tellsApart(test, fault, other), () -> oracle.tellsApart(test, fault, other));
            case 10 -> same("worth(" + test + ")", () -> x.worth(test), () -> oracle.worth(test));
            case 11 -> same("testFor(" + fault + ")", () -> x.testFor(fault), () -> oracle.testFor(fault));
            case 12 -> same("testBetween(" + fault + ", " + other + ")",
                    () -> x.testBetween(fault, other), () -> oracle.testBetween(fault, other));
            case 13 -> same("alike(" + fault + ")", () -> x.alike(fault), () -> oracle.alike(fault));
            case 14 -> same("suspects()", x::suspects, oracle::suspects);
            case 15 -> same("suspect(" + fault + ")", () -> x.suspect(fault), () -> oracle.suspect(fault));
            case 16 -> same("nextTest()", x::nextTest, oracle::nextTest);
            case 17 -> same("checksum()", x::checksum, oracle::checksum);
            default -> askDear();
        }
    }

    private void askDear() {
        switch (random.nextInt(8)) {
            case 0 -> same("hidden()", x::hidden, oracle::hidden);
            case 1 -> same("classes()", x::classes, oracle::classes);
            case 2 -> same("coverage()", x::coverage, oracle::coverage);
            case 3 -> same("leastSet()", x::leastSet, oracle::leastSet);
            default -> same("errorOffset()", x::errorOffset, oracle::errorOffset);
        }
    }
}
