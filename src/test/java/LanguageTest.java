import java.io.IOException;
import java.nio.file.Files;
import java.nio.file.Path;
import java.util.List;

/**
 * The program keeps to LANGUAGE.md as far as its text shows it; and the reader that says so does
 * see each breach, for it is shown one of each.
 */
public final class LanguageTest {
    private static final Path PROGRAM = Path.of("src/main/java/SubflowExecutor.java");
    private static final String DEEP = "private int d1() { return d2(); } private int d2() { return d3(); }"
            + " private int d3() { return d4(); } private int d4() { return d5(); }"
            + " private int d5() { return d6(); } private int d6() { return d7(); }"
            + " private int d7() { return d8(); } private int d8() { return d9(); }"
            + " private int d9() { return 9; }";

    public static void main(String[] args) throws IOException {
        String program = Files.readString(PROGRAM);
        Due.same("breaches", Language.breachesOf(program).toString(), "[]");
        outside(program);
        inside(program);
        Due.close("LanguageTest");
    }

    private static void outside(String program) throws IOException {
        sees("java", program + " nonsense");
        sees("0", "package p; " + program);
        sees("0", program + " final class Another { }");
        sees("4", "import java.util.Map; " + program);
    }

    private static void inside(String program) throws IOException {
        with("2", program, "class Inner { }");
        with("2", program, "static class Seen { }");
        with("2", program, "private void odd() { class Local { } }");
        with("2", program, "private interface One { int of(int a); }"
                + " private static int odd(One one) { return odd(a -> a); }");
        with("2", program, "private interface One { int of(int a); }"
                + " private static int odd(One one) { return odd(Math::abs); }");
        with("3", program, "private Integer odd;");
        with("3", program, "private int[][][] odd;");
        with("3", program, "private Line[][] odd;");
        with("3", program, "private boolean[][] odd;");
        with("3", program, "private void odd(Object a) { }");
        with("3", program, "private Object odd() { return null; }");
        with("4", program, "private static int odd(int a) { return Math.addExact(a, 1); }");
        with("4", program, "private static int odd() { return Arrays.hashCode(new int[0]); }");
        with("4", program, "private final Object odd = new Object();");
        with("5", program, "private static int odd;");
        with("5", program, "private static final boolean[] ODD = { true };");
        with("5", program, "static { }");
        with("6", program, "private static void odd() { throw null; }");
        with("6", program, "private static void odd() { try { } finally { } }");
        with("6", program, "private void odd() { synchronized (this) { } }");
        with("6", program, "private void odd() { assert workers > 0; }");
        with("6", program, "private void odd() throws Error { }");
        with("7", program, "private int odd(int a) { return a / workers; }");
        with("7", program, "private int odd(int a) { return a % workers; }");
        with("8", program, "private int odd(int a) { return a < 1 ? 0 : odd(a - 1); }");
        with("8", program, "private int odd() { return even(); } private int even() { return odd(); }");
        with("9", program, "private void odd() { while (underWay) { } }");
        with("9", program, "private void odd() { do { } while (underWay); }");
        with("9", program, "private void odd() { for (;;) { } }");
        with("10", program, "private static String odd(String a) { return a + 1; }");
        with("11", program, "private void odd(int a, int b, int c, int d, int e, int f, int g, int h) { }");
        with("11", program, "private void odd() {" + "\n;".repeat(60) + " }");
        with("11", program, fields(20));
        with("11", program, classes(12));
        with("11", program, DEEP);
        with("12", program, "private int[] odd() { return new int[1]; }");
        with("12", program, "private static Line odd() { return new Line(); }");
    }

    private static String fields(int count) {
        StringBuilder text = new StringBuilder("private static final class Fields {");
        for (int f = 0; f <= count; f++) {
            text.append(" int f").append(f).append(';');
        }
        return text.append(" }").toString();
    }

    private static String classes(int count) {
        StringBuilder text = new StringBuilder();
        for (int c = 0; c < count; c++) {
            text.append(" private static final class Class").append(c).append(" { }");
        }
        return text.toString();
    }

    /** The program with one member more, before its last brace. */
    private static void with(String rule, String program, String member) throws IOException {
        int end = program.lastIndexOf('}');
        sees(rule, program.substring(0, end) + member + program.substring(end));
    }

    private static void sees(String rule, String program) throws IOException {
        List<String> breaches = Language.breachesOf(program);
        Due.yes("a breach of rule " + rule + " is seen in " + breaches,
                breaches.stream().anyMatch(told -> told.startsWith(rule + ",")));
    }
}
