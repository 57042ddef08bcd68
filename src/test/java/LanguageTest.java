import java.io.IOException;
import java.lang.reflect.Field;
import java.lang.reflect.Method;
import java.lang.reflect.Modifier;
import java.nio.file.Files;
import java.nio.file.Path;
import java.util.Arrays;
import java.util.List;
import java.util.Set;
import java.util.TreeSet;
import java.util.regex.Matcher;
import java.util.regex.Pattern;
import java.util.stream.Collectors;

/** The face of the document, and the rules of LANGUAGE.md that a look at the text and at the classes can tell. */
public final class LanguageTest {
    private static final Path SOURCE = Path.of("src/main/java/SlipHeaps.java");
    private static final Path DOCUMENT = Path.of("../shared/DOC.md");
    private static final Set<String> IMPORTS = Set.of("java.util.Arrays", "java.util.NoSuchElementException");
    private static final List<String> BANNED = List.of("->", "::", "synchronized", "finally", "instanceof", "while (true)", "for (;;)", "currentTimeMillis", "nanoTime", "Random", "String.format", "\" +", "+ \"",
        "Exact(", "System.out", "Thread", "hashCode", "toString", "Object ", "protected ");

    public static void main(String[] args) throws IOException {
        String text = Files.readString(SOURCE);
        face();
        members();
        words(text);
        shapes(text);
        Due.close("LanguageTest");
    }

    private static String signature(Method m) {
        String throwing = Arrays.stream(m.getExceptionTypes()).map(Class::getSimpleName).collect(Collectors.joining(", "));
        String types = Arrays.stream(m.getParameterTypes()).map(Class::getName).collect(Collectors.joining(", "));
        return m.getReturnType().getName() + " " + m.getName() + "(" + types + ")" + (throwing.isEmpty() ? "" : " throws " + throwing);
    }

    private static void face() throws IOException {
        Set<String> due = new TreeSet<>();
        Matcher found = Pattern.compile("(?m)^    public (int|long|boolean) (\\w+)\\(([^)]*)\\)( throws [^;]+)?;$")
            .matcher(Files.readString(DOCUMENT));
        while (found.find()) {
            String types = Arrays.stream(found.group(3).split(", ")).map(p -> p.split(" ")[0]).collect(Collectors.joining(", "));
            due.add(found.group(1) + " " + found.group(2) + "(" + types + ")" + (found.group(4) == null ? "" : found.group(4)));
        }
        Set<String> got = new TreeSet<>();
        for (Method m : SlipHeaps.class.getDeclaredMethods()) {
            if (Modifier.isPublic(m.getModifiers())) {
                got.add(signature(m));
            }
        }
        Due.is("the methods of the face", () -> got, due);
        Due.is("how many", () -> got.size(), 41);
        Due.is("the class is final", () -> Modifier.isFinal(SlipHeaps.class.getModifiers()), 1);
        Due.is("constructors", () -> SlipHeaps.class.getConstructors().length, 1);
        Due.is("all constructors", () -> SlipHeaps.class.getDeclaredConstructors().length, 1);
    }

    private static void members() {
        Set<String> names = new TreeSet<>();
        for (Method m : SlipHeaps.class.getDeclaredMethods()) {
            boolean open = Modifier.isPublic(m.getModifiers());
            if (open) {
                names.add(m.getName());
            }
            Due.is(m.getName() + " is public or private", () -> open || Modifier.isPrivate(m.getModifiers()), 1);
        }
        for (Field f : SlipHeaps.class.getDeclaredFields()) {
            boolean face = Set.of("NONE", "VOID").contains(f.getName());
            Due.is(f.getName() + " is hidden", () -> face ? Modifier.isPublic(f.getModifiers()) : Modifier.isPrivate(f.getModifiers()), 1);
        }
        Class<?>[] inside = SlipHeaps.class.getDeclaredClasses();
        Due.is("classes", () -> inside.length + 1 <= 12, 1);
        fields(SlipHeaps.class);
        for (Class<?> c : inside) {
            Due.is(c.getName() + " is static", () -> Modifier.isStatic(c.getModifiers()), 1);
            fields(c);
            for (Method m : c.getDeclaredMethods()) {
                Due.is(c.getName() + "." + m.getName() + " has a name of the face", () -> names.contains(m.getName()), 0);
            }
        }
        for (Method m : SlipHeaps.class.getDeclaredMethods()) {
            boolean hidden = Modifier.isPrivate(m.getModifiers());
            Due.is(m.getName() + " hides a name of the face", () -> hidden && names.contains(m.getName()), 0);
        }
    }

    private static void fields(Class<?> c) {
        int own = 0;
        for (Field f : c.getDeclaredFields()) {
            boolean constant = Modifier.isStatic(f.getModifiers());
            own += constant ? 0 : 1;
            Due.is(f + " is no state", () -> !constant || Modifier.isFinal(f.getModifiers()), 1);
        }
        int count = own;
        Due.is(c.getName() + " has few fields", () -> count <= 20, 1);
    }

    private static void words(String text) {
        for (String banned : BANNED) {
            Due.is("'" + banned + "' stands at", () -> text.indexOf(banned), -1);
        }
        for (String banned : List.of("try", "catch", "assert", "static \\{", "Exception\\(.*\\+")) {
            Due.is("'" + banned + "' stands there", () -> Pattern.compile("\\b" + banned + "\\b").matcher(text).find(), 0);
        }
        Due.is("strange signs", () -> text.chars().filter(c -> c > 126).count(), 0);
        Matcher imports = Pattern.compile("(?m)^import ([^;]+);").matcher(text);
        while (imports.find()) {
            String name = imports.group(1);
            Due.is("import of " + name, () -> IMPORTS.contains(name), 1);
        }
        for (String line : text.split("\n")) {
            boolean makes = line.matches(".*\\bnew\\b.*");
            boolean once = line.contains("throw new ") || line.matches(" +(private |final )*[A-Z]?\\w+(\\[\\])? \\w+ = new .*");
            boolean comment = line.trim().startsWith("*") || line.trim().startsWith("/");
            Due.is("made in a call: " + line, () -> makes && !once && !comment, 0);
        }
    }

    private static void shapes(String text) {
        Matcher m = Pattern.compile("(?ms)^( {4}| {8})(?! )[^\\n;{}=]*\\(([^)]*)\\)[^\\n;{}=]*\\{$(.*?)^\\1\\}$").matcher(text);
        int methods = 0;
        while (m.find()) {
            methods++;
            String head = m.group().lines().findFirst().orElse("");
            long lines = m.group().lines().count();
            int parameters = m.group(2).isEmpty() ? 0 : m.group(2).split(",").length;
            Due.is("lines of" + head + " " + lines, () -> lines <= 60, 1);
            Due.is("parameters of" + head, () -> parameters <= 7, 1);
        }
        int found = methods;
        Due.is("methods are found", () -> found > 120, 1);
    }
}
