import java.lang.management.ManagementFactory;
import java.lang.reflect.Constructor;
import java.lang.reflect.Field;
import java.lang.reflect.Method;
import java.lang.reflect.Modifier;
import java.nio.file.Files;
import java.nio.file.Path;
import java.util.ArrayList;
import java.util.HashSet;
import java.util.List;
import java.util.Set;
import java.util.TreeSet;
import java.util.regex.Matcher;
import java.util.regex.Pattern;

/** What of ../shared/LANGUAGE.md a test can see: the face, the words and the library, the room. */
public final class LanguageTest {
    private static final String[] FACE = {
        "int feed(int,int,int,int,int)", "int school(int)", "int row(int)", "int fault()", "int count(int)",
        "int table(int,int)", "int fold(int,int)", "int undo()", "int layer(int,int,int)",
        "int crease(int,int,boolean)", "int flight(int,int,boolean,int)", "int step(int,int,boolean,int,int)",
        "int best(int,int,int)", "int found(int)", "int mean(int,int)", "int rows(int,boolean)",
        "int evening(int)", "int trim(int)", "int teach(int,int,int,int)", "int taught(int)", "void image()",
        "boolean restore()"};
    private static final Set<String> LIBRARY = Set.of("Math.abs", "Math.max", "Math.min", "Math.floorMod",
            "Integer.bitCount", "Integer.compare", "System.arraycopy", "Arrays.fill");

    private LanguageTest() {
    }

    public static void main(String[] args) throws Exception {
        String source = Files.readString(Path.of("src/main/java/FoldTower.java"));
        String code = source.replaceAll("(?s)/\\*.*?\\*/", " ").replaceAll("//[^\n]*", " ");
        face();
        words(code);
        library(code);
        exceptions(code);
        methods(code);
        room();
        Check.end();
    }

    private static void face() {
        Set<String> due = new TreeSet<>(List.of(FACE));
        Set<String> publicOnes = new HashSet<>();
        Set<String> got = new TreeSet<>();
        for (Method m : FoldTower.class.getDeclaredMethods()) {
            if (Modifier.isPublic(m.getModifiers())) {
                StringBuilder s = new StringBuilder();
                for (Class<?> p : m.getParameterTypes()) {
                    s.append(s.length() > 0 ? "," : "").append(p.getSimpleName());
                }
                got.add(m.getReturnType().getSimpleName() + " " + m.getName() + "(" + s + ")");
                publicOnes.add(m.getName());
            } else {
                Check.same("1 private " + m.getName(), true, Modifier.isPrivate(m.getModifiers()));
            }
        }
        Check.same("1 the face", due, got);
        List<Class<?>> classes = new ArrayList<>(List.of(FoldTower.class.getDeclaredClasses()));
        Check.same("11 classes", true, classes.size() < 12);
        for (Class<?> c : classes) {
            Check.same("1 static " + c.getName(), true, Modifier.isStatic(c.getModifiers()));
        }
        classes.add(FoldTower.class);
        for (Class<?> c : classes) {
            int fields = 0;
            for (Field f : c.getDeclaredFields()) {
                boolean constant = Modifier.isStatic(f.getModifiers());
                fields += constant ? 0 : 1;
                Check.same("5 " + f, true, !constant || Modifier.isFinal(f.getModifiers()));
            }
            Check.same("11 fields of " + c.getName(), true, fields <= 20);
            for (Method m : c.getDeclaredMethods()) {
                boolean own = c == FoldTower.class && Modifier.isPublic(m.getModifiers());
                Check.same("1 name of " + m, true, own || !publicOnes.contains(m.getName()));
                Check.same("11 parameters of " + m, true, m.getParameterCount() <= 7);
            }
        }
        for (Field f : FoldTower.class.getDeclaredFields()) {
            boolean constant = f.getName().equals("NONE");
            Check.same("1 field " + f, constant, !Modifier.isPrivate(f.getModifiers()));
        }
        for (Constructor<?> c : FoldTower.class.getDeclaredConstructors()) {
            Check.same("1 constructor", 0, c.getParameterCount());
        }
    }

    private static void words(String code) {
        for (String word : List.of("try", "catch", "finally", "synchronized", "assert", "instanceof", "static\\s*\\{",
                "->", "::", "float", "double", "Object", "Override", "package", "var", "yield", "new\\s+Object",
                "hashCode", "toString", "native", "transient", "volatile", "long")) {
            String bounded = word.matches("[a-zA-Z]+") ? "\\b" + word + "\\b" : word;
            Check.same("the word " + word, false, Pattern.compile(bounded).matcher(code).find());
        }
        for (int i = 0; i < code.length(); i++) {
            Check.same("the sign at " + i, true, code.charAt(i) < 127);
        }
    }

    private static void library(String code) {
        Matcher m = Pattern.compile("\\b(Math|Integer|System|Arrays|Long|Character|String|List)\\.(\\w+)").matcher(code);
        while (m.find()) {
            Check.same("4 " + m.group(), true, LIBRARY.contains(m.group()));
        }
        Matcher imported = Pattern.compile("import\\s+([\\w.]+);").matcher(code);
        while (imported.find()) {
            String name = imported.group(1);
            Check.same("4 import " + name, true,
                    Set.of("java.util.Arrays", "java.util.NoSuchElementException").contains(name));
        }
    }

    private static void exceptions(String code) {
        Matcher m = Pattern.compile("\\bthrow\\s[^;]*;").matcher(code);
        Pattern due = Pattern.compile("throw new (NoSuchElementException|IllegalArgumentException)\\(\\);");
        while (m.find()) {
            Check.same("6 " + m.group(), true, due.matcher(m.group()).matches());
        }
    }

    private static void methods(String code) {
        String[] lines = code.split("\n");
        int start = -1;
        String end = "";
        for (int i = 0; i < lines.length; i++) {
            Matcher m = Pattern.compile("( {4}| {8})\\S.*\\(.*\\{").matcher(lines[i]);
            if (start < 0 && m.matches()) {
                start = i;
                end = m.group(1) + "}";
            } else if (start >= 0 && lines[i].equals(end)) {
                Check.same("11 the length of " + lines[start].trim(), true, i - start < 60);
                start = -1;
            }
        }
        Check.same("every method ends", -1, start);
    }

    /** 512 of the dearest calls stay far below the room that all calls of one run have. */
    private static void room() {
        com.sun.management.ThreadMXBean bean =
                (com.sun.management.ThreadMXBean) ManagementFactory.getThreadMXBean();
        long self = Thread.currentThread().getId();
        int kept = 0;
        long before = bean.getThreadAllocatedBytes(self);
        FoldTower t = new FoldTower();
        for (int i = 0; i < 127; i++) {
            kept += t.best(i % 3, 4, i % 10) + t.rows(4, i % 2 == 0) + t.evening(127) + t.mean(1, 0);
        }
        long bytes = bean.getThreadAllocatedBytes(self) - before;
        Check.same("the room: " + bytes + " bytes, " + kept, true, bytes < 200_000);
    }
}
