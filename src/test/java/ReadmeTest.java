import java.io.ByteArrayOutputStream;
import java.io.IOException;
import java.io.PrintStream;
import java.nio.file.DirectoryStream;
import java.nio.file.Files;
import java.nio.file.Path;
import java.util.ArrayList;
import java.util.List;
import java.util.Set;
import java.util.TreeSet;
import java.util.regex.Matcher;
import java.util.regex.Pattern;

/** What README.md says of the class and of its tests holds. */
public final class ReadmeTest {
    private static final Path TESTS = Path.of("src/test/java");
    private static final List<String> wrong = new ArrayList<>();

    public static void main(String[] args) throws IOException {
        String page = Files.readString(Path.of("README.md"));
        same("the program", Files.readString(TESTS.resolve("Example.java")), block(page, "java"));
        same("what it prints", whatExamplePrints(), block(page, "text"));
        same("the methods", methodsOfClass(), all(page, "(?m)^\\| `(\\w+\\([\\w, ]*\\))` \\|"));
        same("the error codes", errorCodes(), all(page, "(?m)^\\| (-\\d \\| `\\w+`) \\|"));
        String lastPart = page.substring(page.lastIndexOf("\n## "));
        same("the tests", filesOfTests(), all(lastPart, "`([A-Z]\\w+)`"));
        statementsLoad(page);
        kindsHaveTheirNumbers(page);
        for (String file : all(page, "[\\s`]((?:src/|\\.ci/)[\\w./]+)")) {
            check("there is no " + file, Files.exists(Path.of(file)));
        }
        check(".ci/run cannot be run", Files.isExecutable(Path.of(".ci/run")));
        finish();
    }

    private static void finish() {
        for (String line : wrong) {
            System.out.println(line);
        }
        System.out.println(wrong.isEmpty() ? "README.md is as due" : wrong.size() + " of README.md are not as due");
        if (!wrong.isEmpty()) {
            System.exit(1);
        }
    }

    private static void check(String fault, boolean holds) {
        if (!holds) {
            wrong.add(fault);
        }
    }

    private static void same(String what, Object due, Object told) {
        check(what + " is\n" + due + "\nbut README.md tells\n" + told, due.equals(told));
    }

    /** The text of the only block of this kind. */
    private static String block(String page, String kind) {
        Matcher m = Pattern.compile("(?s)```" + kind + "\n(.*?)```").matcher(page);
        return m.find() ? m.group(1) : "none";
    }

    private static Set<String> all(String page, String pattern) {
        Set<String> found = new TreeSet<>();
        Matcher m = Pattern.compile(pattern).matcher(page);
        while (m.find()) {
            found.add(m.group(1));
        }
        return found;
    }

    private static String whatExamplePrints() {
        PrintStream before = System.out;
        ByteArrayOutputStream bytes = new ByteArrayOutputStream();
        System.setOut(new PrintStream(bytes, true));
        Example.main(new String[0]);
        System.setOut(before);
        return bytes.toString().replace(System.lineSeparator(), "\n");
    }

    /** Each public method with the names of its parameters, as a call is written. */
    private static Set<String> methodsOfClass() throws IOException {
        String source = Files.readString(Path.of("src/main/java/FaultTests.java"));
        Set<String> methods = new TreeSet<>();
        for (String method : all(source, "(?m)^    public \\w+ (\\w+\\([\\w, ]*\\))")) {
            methods.add(method.replace("int ", ""));
        }
        return methods;
    }

    private static Set<String> errorCodes() {
        return new TreeSet<>(Set.of(
                FaultTests.SYNTAX_ERROR + " | `SYNTAX_ERROR`",
                FaultTests.OUT_OF_RANGE + " | `OUT_OF_RANGE`",
                FaultTests.REPEATED + " | `REPEATED`",
                FaultTests.LOOP + " | `LOOP`",
                FaultTests.TOO_MANY + " | `TOO_MANY`"));
    }

    private static Set<String> filesOfTests() throws IOException {
        Set<String> names = new TreeSet<>();
        try (DirectoryStream<Path> files = Files.newDirectoryStream(TESTS, "*.java")) {
            for (Path file : files) {
                names.add(file.getFileName().toString().replace(".java", ""));
            }
        }
        return names;
    }

    /** The statements that the page shows are a setup text, told in that order. */
    private static void statementsLoad(String page) {
        Set<String> statements = all(page, "`((?:gate|output|bridge|test) [\\w ]+)`");
        check("the page shows " + statements, statements.size() == 5);
        List<String> inOrder = new ArrayList<>();
        for (String kind : List.of("gate", "output", "bridge", "test")) {
            statements.stream().filter(s -> s.startsWith(kind)).forEach(inOrder::add);
        }
        FaultTests x = new FaultTests();
        check("its statements are not read", Checks.read(x, "circuit 3;" + String.join(";", inOrder) + ";") == 4);
    }

    private static void kindsHaveTheirNumbers(String page) {
        Set<String> kinds = all(page, "\\b(\\d\\s`(?:and|or|nand|nor|xor|xnor|not|buf|mux)`)");
        check("the page tells the kinds " + kinds, kinds.size() == 9);
        for (String kind : kinds) {
            String word = kind.substring(3, kind.length() - 1);
            String operands = word.equals("mux") ? " 0 1 2" : word.equals("not") || word.equals("buf") ? " 0" : " 0 1";
            FaultTests x = Checks.of("circuit 3;gate " + word + operands + ";");
            check(kind + " is wrong", x.wire(3, 0) == kind.charAt(0) - '0');
        }
    }
}
