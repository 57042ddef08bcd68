import java.io.IOException;
import java.nio.file.Files;
import java.nio.file.Path;
import java.util.List;

/** SlipHeaps.java as LANGUAGE.md has it, told by the compiler's own reading; small texts show what is seen. */
public final class SourceTest {
    public static void main(String[] args) throws IOException {
        String text = Files.readString(Path.of("src/main/java/SlipHeaps.java"));
        Due.is("flaws of SlipHeaps.java", () -> flaws(text), "");
        seen("nothing", "", "private void m(int v) { }");
        seen("a class that is open", "1", "public static final class C { }");
        seen("a class that has its outer object", "1", "private final class C { }");
        seen("a name of the face inside", "1", "public int m() { return 0; } private static final class C { int m() { return 0; } }");
        seen("a local class", "2", "private void m() { class C { } }");
        seen("a double", "3", "private double d;");
        seen("a list", "3", "private java.util.ArrayList<String> list;");
        seen("an exact sum", "4", "private int m(int v) { return Math.addExact(v, 1); }");
        seen("a clock", "4", "private long m() { return System.nanoTime(); }");
        seen("a state of the class", "5", "private static int count;");
        seen("a block of the class", "5", "static { }");
        seen("an unwritten exception", "6", "private void m(RuntimeException e) { throw e; }");
        seen("another exception", "6", "private void m() { throw new IllegalStateException(); }");
        seen("two texts by their objects", "6", "private boolean m(String a, String b) { return a == b; }");
        seen("a divisor that nobody looks at", "7", "private int m(int a, int b) { return a / b; }");
        seen("a divisor that is looked at", "", "private int m(int a, int b) { return b == 0 ? 0 : a / b; }");
        seen("a divisor where another is looked at", "7", "private int m(int a, int b) { return a == 0 ? 0 : a / b; }");
        seen("zero", "7", "private int m(int a) { return a / (0); }");
        seen("two", "", "private int m(int a) { return a / 2; }");
        seen("a rest", "10", "private int m(int a, int b) { return a % b; }");
        seen("a cast of an object", "7", "private int m(Object o) { return ((int[]) o)[0]; }");
        seen("a call of itself", "8", "private int m(int v) { return m(v + 1); }");
        seen("calls of one another", "8", "private int m() { return n(); } private int n() { return m(); }");
        seen("a loop without a bound", "9", "private void m(boolean b) { for (int i = 0; b; i++) { } }");
        seen("a loop away from its bound", "9", "private void m() { for (int i = 5; i > 0; i++) { } }");
        seen("a loop that sets its counter", "9", "private void m() { for (int i = 0; i < 9; i++) { i = 0; } }");
        seen("a while without a counter", "9", "private void m(int v) { while (v < 9) { } }");
        seen("a while with a counter", "", "private void m(int v) { int i = v; while (i < 9 && v > 0) { i++; } }");
        seen("joined texts", "10", "private String m(String s, int v) { return s + v; }");
        seen("a try", "10", "private void m() { try { m(0); } catch (RuntimeException e) { } } private void m(int v) { }");
        seen("null", "10", "private String m() { return null; }");
        seen("eight parameters", "11", "private void m(int a, int b, int c, int d, int e, int f, int g, int h) { }");
        seen("a long method", "11", "private void m(int v) {" + "\n".repeat(60) + "}");
        seen("eight calls deep", "", chain(8));
        seen("nine calls deep", "11", chain(9));
        seen("twelve classes", "", classes(11));
        seen("thirteen classes", "11", classes(12));
        seen("an object made in a call", "12", "private int[] m() { return new int[1]; }");
        seen("a constructor that calls", "12", "SlipHeaps(int v) { m(); } private void m() { }");
        Due.close("SourceTest");
    }

    private static String flaws(String text) {
        try {
            return String.join("\n    ", Source.flaws("SlipHeaps", text));
        } catch (IOException e) {
            throw new IllegalStateException(e);
        }
    }

    private static String chain(int n) {
        StringBuilder text = new StringBuilder();
        for (int i = 1; i < n; i++) {
            text.append("private void m").append(i).append("() { m").append(i + 1).append("(); } ");
        }
        return text.append("private void m").append(n).append("() { } ").toString();
    }

    private static String classes(int n) {
        StringBuilder text = new StringBuilder();
        for (int i = 0; i < n; i++) {
            text.append("private static final class C").append(i).append(" { } ");
        }
        return text.toString();
    }

    /** The rules that flaws of a class with these members name. */
    private static void seen(String what, String rule, String members) {
        String all = flaws("public final class SlipHeaps { " + members + " }");
        List<String> rules = all.lines().map(line -> line.strip().split(" ")[0]).distinct().toList();
        Due.is(what + " (" + all + ")", () -> rule.isEmpty() ? all.isEmpty() : rules.contains(rule), 1);
    }
}
