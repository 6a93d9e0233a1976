import java.lang.reflect.Method;
import java.lang.reflect.Modifier;
import java.net.URL;
import java.net.URLClassLoader;
import java.nio.file.Files;
import java.nio.file.Path;
import java.util.ArrayList;
import java.util.HashSet;
import java.util.List;
import java.util.Set;
import java.util.regex.Matcher;
import java.util.regex.Pattern;
import javax.tools.ToolProvider;

/** README.md's examples compile and answer as they say, and each call of the face has one. */
public final class ReadmeTest {
    interface Shown {
        Object answer();
    }

    private static final Pattern ANSWERED =
            Pattern.compile("(t\\.(\\w+)\\(.*\\));\\s*// (-?\\d+|true|false|[A-Z]\\w+Exception)(: .*)?");

    /** The method that an example calls, and what it answers or throws. */
    private final Set<String> shown = new HashSet<>();
    private final StringBuilder members = new StringBuilder();
    private final StringBuilder main = new StringBuilder();

    private ReadmeTest() {
    }

    public static void main(String[] args) throws Exception {
        ReadmeTest test = new ReadmeTest();
        test.readBlocks(Files.readAllLines(Path.of("README.md")));
        test.lacksNoCall();
        test.run();
        Check.end();
    }

    /** Called by the examples: the answer, or the exception's name. */
    static void show(String line, String due, Shown call) {
        String got;
        try {
            got = String.valueOf(call.answer());
        } catch (RuntimeException e) {
            got = e.getClass().getSimpleName();
        }
        Check.same("README.md " + line, due, got);
    }

    private void readBlocks(List<String> lines) {
        List<String> block = null;
        for (int i = 0; i < lines.size(); i++) {
            String line = lines.get(i);
            if (line.equals("```java")) {
                block = new ArrayList<>();
            } else if (line.equals("```") && block != null) {
                endBlock(block, i);
                block = null;
            } else if (block != null) {
                block.add(line);
            }
        }
    }

    private void endBlock(List<String> block, int end) {
        boolean member = block.get(0).startsWith("static ");
        StringBuilder code = new StringBuilder();
        for (int i = 0; i < block.size(); i++) {
            code.append(member ? block.get(i) : told(block.get(i), end - block.size() + i + 1)).append('\n');
        }
        if (member) {
            members.append(code);
        } else {
            members.append("static void block").append(end).append("() {\n").append(code).append("}\n");
            main.append("block").append(end).append("();\n");
        }
    }

    /** A line as the examples' program has it: with an answer behind it, the answer is compared. */
    private String told(String line, int number) {
        Matcher m = ANSWERED.matcher(line);
        if (!m.matches()) {
            Check.same("README.md " + number + " tells an answer as the others do: " + line, false, line.contains("//"));
            return line;
        }
        shown.add(m.group(2) + " " + (m.group(3).endsWith("Exception") ? m.group(3) : "answers"));
        return "ReadmeTest.show(\"" + number + " " + m.group(1) + "\", \"" + m.group(3) + "\", () -> " + m.group(1) + ");";
    }

    private void lacksNoCall() {
        for (Method m : FoldTower.class.getDeclaredMethods()) {
            if (!Modifier.isPublic(m.getModifiers())) {
                continue;
            }
            boolean silent = m.getReturnType() == void.class;
            Check.same("an answer of " + m.getName(), !silent, shown.contains(m.getName() + " answers"));
            Set<String> thrown = new HashSet<>();
            for (Class<?> e : m.getExceptionTypes()) {
                thrown.add(m.getName() + " " + e.getSimpleName());
            }
            for (String e : List.of("NoSuchElementException", "IllegalArgumentException")) {
                String throwing = m.getName() + " " + e;
                Check.same("an example of " + throwing, thrown.contains(throwing), shown.contains(throwing));
            }
        }
    }

    /** Compiles the examples, and runs them by a loader that has all classes of the test anew. */
    private void run() throws Exception {
        Path folder = Files.createTempDirectory("readme");
        Path source = folder.resolve("ReadmeExamples.java");
        // The examples end the machine where one is wrong, so what is left goes at its end.
        for (Path left : List.of(folder, source, folder.resolve("ReadmeExamples.class"))) {
            left.toFile().deleteOnExit();
        }
        Files.writeString(source, "public final class ReadmeExamples {\n" + members
                + "public static void main(String[] args) {\n" + main + "Check.end();\n}\n}\n");
        String classes = System.getProperty("java.class.path");
        int failed = ToolProvider.getSystemJavaCompiler().run(null, null, null, "--release", "17",
                "-cp", classes, "-d", folder.toString(), source.toString());
        Check.same("README.md's examples compile", 0, failed);
        if (failed == 0) {
            URL[] places = {folder.toUri().toURL(), Path.of(classes).toUri().toURL()};
            try (URLClassLoader loader = new URLClassLoader(places, ClassLoader.getPlatformClassLoader())) {
                loader.loadClass("ReadmeExamples").getMethod("main", String[].class).invoke(null, (Object) new String[0]);
            }
        }
    }
}
