import java.io.ByteArrayOutputStream;
import java.io.IOException;
import java.io.PrintStream;
import java.net.URL;
import java.net.URLClassLoader;
import java.nio.file.Files;
import java.nio.file.Path;
import java.util.List;
import java.util.regex.Matcher;
import java.util.regex.Pattern;
import javax.tools.ToolProvider;

/** The program in README.md can be compiled, and prints what stands behind each of its lines. */
public final class ReadmeTest {
    public static void main(String[] args) throws Exception {
        String page = Files.readString(Path.of("README.md"));
        Matcher program = Pattern.compile("(?s)```java\n(.*?)```").matcher(page);
        Due.is("a program stands there", program::find, 1);
        String text = program.group(1);
        Due.is("what it prints", () -> printed(text), due(text));
        for (String name : List.of("NONE", "VOID", "NoSuchElementException", "IllegalArgumentException", "bash .ci/run")) {
            Due.is("it tells of " + name, () -> page.contains("`" + name) || page.contains("." + name) || page.contains("\n" + name), 1);
        }
        for (java.lang.reflect.Method m : SlipHeaps.class.getDeclaredMethods()) {
            boolean thrower = m.getExceptionTypes().length > 0;
            String thrown = page.substring(page.indexOf("## What is thrown when"), page.indexOf("## Tests"));
            int split = thrown.indexOf("Nothing else is thrown");
            Due.is(m.getName() + " throws", () -> !thrower || thrown.substring(0, split).contains("`" + m.getName() + "`"), 1);
            Due.is(m.getName() + " never throws", () -> thrower || !java.lang.reflect.Modifier.isPublic(m.getModifiers())
                || thrown.substring(split).contains("`" + m.getName() + "`"), 1);
        }
        Due.close("ReadmeTest");
    }

    /** Where a line prints, its remark begins with what is due. */
    private static String due(String text) {
        StringBuilder lines = new StringBuilder();
        Matcher line = Pattern.compile("println\\(.*; +// (-?\\d+):").matcher(text);
        while (line.find()) {
            lines.append(line.group(1)).append('\n');
        }
        return lines.toString();
    }

    private static String printed(String text) {
        try {
            Path folder = Files.createTempDirectory("readme");
            Path file = folder.resolve("Try.java");
            Files.writeString(file, text);
            int status = ToolProvider.getSystemJavaCompiler().run(null, null, null, "-proc:none", "-d", folder.toString(), "-cp",
                System.getProperty("java.class.path"), file.toString());
            String got = status == 0 ? output(folder) : "it does not compile";
            Files.deleteIfExists(folder.resolve("Try.class"));
            Files.delete(file);
            Files.delete(folder);
            return got;
        } catch (IOException | ReflectiveOperationException e) {
            return e.toString();
        }
    }

    private static String output(Path folder) throws IOException, ReflectiveOperationException {
        PrintStream screen = System.out;
        ByteArrayOutputStream held = new ByteArrayOutputStream();
        try (URLClassLoader loader = new URLClassLoader(new URL[] {folder.toUri().toURL()})) {
            System.setOut(new PrintStream(held, true));
            loader.loadClass("Try").getMethod("main", String[].class).invoke(null, (Object) new String[0]);
        } finally {
            System.setOut(screen);
        }
        return held.toString().replace("\r", "");
    }
}
