import java.io.IOException;
import java.lang.reflect.Constructor;
import java.lang.reflect.Field;
import java.lang.reflect.Method;
import java.lang.reflect.Modifier;
import java.nio.file.Files;
import java.nio.file.Path;
import java.util.ArrayList;
import java.util.Arrays;
import java.util.List;
import java.util.Set;
import java.util.TreeSet;
import java.util.regex.Matcher;
import java.util.regex.Pattern;

/** The face is the document's and no more, and the source keeps to what of LANGUAGE.md a text search can see. */
public final class FaceTest {
    private static final List<String> FACE = List.of(
            "int SYNTAX_ERROR=-2", "int OUT_OF_RANGE=-3", "int REPEATED=-4", "int LOOP=-5", "int TOO_MANY=-6",
            "FaultTests()",
            "int append(int,int,int,int,int)",
            "int load(int) IllegalArgumentException",
            "int errorOffset()",
            "int state(int) IllegalArgumentException",
            "int wire(int,int) IndexOutOfBoundsException IllegalArgumentException",
            "int operand(int,int) IndexOutOfBoundsException NoSuchElementException",
            "int value(int,int) IndexOutOfBoundsException",
            "int faulty(int,int,int) IndexOutOfBoundsException",
            "int finds(int,int) IndexOutOfBoundsException",
            "boolean tellsApart(int,int,int) IndexOutOfBoundsException",
            "int worth(int) IndexOutOfBoundsException",
            "int testFor(int) IndexOutOfBoundsException",
            "int testBetween(int,int) IndexOutOfBoundsException",
            "int hidden()",
            "int alike(int) IndexOutOfBoundsException",
            "int classes()",
            "double coverage()",
            "int leastSet()",
            "int suspects()",
            "int suspect(int) NoSuchElementException",
            "int nextTest()",
            "int addTest(int,int) IllegalArgumentException IllegalStateException",
            "int removeTest(int) IndexOutOfBoundsException",
            "int setKind(int,int) IndexOutOfBoundsException IllegalArgumentException",
            "int see(int,int,int) IndexOutOfBoundsException IllegalArgumentException",
            "int forget()",
            "int complete()",
            "int undo()",
            "long checksum()");
    private static final String[] FORBIDDEN = {
        "\\bcatch\\b", "\\bfinally\\b", "\\bsynchronized\\b", "\\bassert\\b", "->", "::", "\\bNaN\\b",
        "Math\\.\\w+Exact", "\\bSystem\\.(?!arraycopy)", "\\bRandom\\b", "\\bThread\\b", "\\bpackage\\b",
        "\\bimport (?!java\\.util\\.NoSuchElementException;)"
    };

    public static void main(String[] args) throws IOException {
        List<String> wrong = new ArrayList<>();
        face(wrong);
        source(wrong);
        for (String line : wrong) {
            System.out.println(line);
        }
        System.out.println(wrong.isEmpty() ? "the face and the source are as due" : wrong.size() + " are not as due");
        if (!wrong.isEmpty()) {
            System.exit(1);
        }
    }

    private static void face(List<String> wrong) {
        Set<String> got = new TreeSet<>();
        Class<?> c = FaultTests.class;
        for (Field f : c.getDeclaredFields()) {
            if (!Modifier.isPrivate(f.getModifiers())) {
                got.add(f.getType() + " " + f.getName() + "=" + constant(f));
            }
        }
        for (Constructor<?> k : c.getDeclaredConstructors()) {
            got.add(c.getSimpleName() + "(" + "int".repeat(k.getParameterCount()) + ")");
        }
        Set<String> names = new TreeSet<>();
        for (Method m : c.getDeclaredMethods()) {
            if (!Modifier.isPrivate(m.getModifiers())) {
                got.add(signature(m));
                names.add(m.getName());
            }
        }
        Set<String> due = new TreeSet<>(FACE);
        for (String member : got) {
            if (!due.contains(member)) {
                wrong.add("not in the document: " + member);
            }
        }
        for (String member : due) {
            if (!got.contains(member)) {
                wrong.add("missing: " + member);
            }
        }
        for (Class<?> inner : c.getDeclaredClasses()) {
            for (Method m : inner.getDeclaredMethods()) {
                if (names.contains(m.getName())) {
                    wrong.add("a second method with the name " + m.getName());
                }
            }
        }
    }

    private static Object constant(Field f) {
        try {
            return f.get(null);
        } catch (IllegalAccessException e) {
            return e;
        }
    }

    private static String signature(Method m) {
        StringBuilder text = new StringBuilder(m.getReturnType() + " " + m.getName() + "(");
        String[] types = Arrays.stream(m.getParameterTypes()).map(Class::getSimpleName).toArray(String[]::new);
        text.append(String.join(",", types)).append(")");
        for (Class<?> e : m.getExceptionTypes()) {
            text.append(" ").append(e.getSimpleName());
        }
        return text.toString();
    }

    private static void source(List<String> wrong) throws IOException {
        String text = Files.readString(Path.of("src/main/java/FaultTests.java"));
        String code = text.replaceAll("(?s)/\\*.*?\\*/", "").replaceAll("//[^\n]*", "").replaceAll("\"[^\"\n]*\"", "\"\"");
        for (String pattern : FORBIDDEN) {
            Matcher m = Pattern.compile(pattern).matcher(code);
            if (m.find()) {
                wrong.add("the source has " + m.group());
            }
        }
        if (!text.chars().allMatch(sign -> sign > 0 && sign < 128)) {
            wrong.add("the source has signs beyond 127");
        }
    }
}
