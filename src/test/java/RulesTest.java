import java.io.IOException;
import java.lang.reflect.Constructor;
import java.lang.reflect.Field;
import java.lang.reflect.Method;
import java.lang.reflect.Modifier;
import java.nio.file.Files;
import java.nio.file.Path;
import java.util.ArrayList;
import java.util.List;
import java.util.Set;
import java.util.TreeSet;
import java.util.regex.Matcher;
import java.util.regex.Pattern;

/**
 * The class's face, by ../shared/DOC.md, and those rules of ../shared/LANGUAGE.md that can be seen
 * in the source or by reflection.
 */
public final class RulesTest {
    private static int wrong = 0;

    private static void fail(String what) {
        wrong++;
        System.out.println(what);
    }

    /** Rule 1: each line of the face stands in the source, its parameters by their names. */
    private static void declarations() throws IOException {
        String source = Files.readString(Path.of("src/main/java/DrawnMaps.java"));
        String face = Files.readString(Path.of("../shared/DOC.md")).replaceAll("(?s).*?```java\n(.*?)\n```.*", "$1");
        for (String line : face.split(";?\n")) if (!source.contains(line)) fail("not as the document has it: " + line);
    }

    /** Rule 1: the face is just the document's. */
    private static void face() throws IOException {
        Set<String> due = new TreeSet<>();
        Matcher m = Pattern.compile("(?m)^    public (int|long) (\\w+\\([^)]*\\));").matcher(Files.readString(Path.of("../shared/DOC.md")));
        while (m.find()) due.add(m.group(1) + " " + m.group(2).replaceAll("(int|long) \\w+", "$1"));
        if (due.size() != 42) fail("the document tells " + due.size() + " methods");
        Set<String> open = new TreeSet<>();
        Set<String> names = new TreeSet<>();
        for (Method one : DrawnMaps.class.getDeclaredMethods()) {
            if (Modifier.isPrivate(one.getModifiers())) continue;
            if (!Modifier.isPublic(one.getModifiers()) || Modifier.isStatic(one.getModifiers())) fail("not of the face: " + one);
            List<String> types = new ArrayList<>();
            for (Class<?> t : one.getParameterTypes()) types.add(t.getName());
            open.add(one.getReturnType() + " " + one.getName() + "(" + String.join(", ", types) + ")");
            names.add(one.getName());
        }
        if (!open.equals(due)) fail("the face is " + open + ", due is " + due);
        for (Method one : DrawnMaps.class.getDeclaredMethods())
            if (Modifier.isPrivate(one.getModifiers()) && names.contains(one.getName())) fail("private, but of a public name: " + one);
        for (Class<?> c : DrawnMaps.class.getDeclaredClasses())
            for (Method one : c.getDeclaredMethods())
                if (names.contains(one.getName())) fail("inside, but of a public name: " + one);
        for (Constructor<?> c : DrawnMaps.class.getDeclaredConstructors())
            if (!Modifier.isPublic(c.getModifiers()) || c.getParameterCount() != 0) fail("not of the face: " + c);
        if (!Modifier.isFinal(DrawnMaps.class.getModifiers())) fail("the class is not final");
    }

    /** Rules 1, 2, 5, 11: fields, classes, parameters. */
    private static void members() {
        Class<?>[] inside = DrawnMaps.class.getDeclaredClasses();
        if (inside.length > 11) fail("too many classes: " + (inside.length + 1));
        List<Class<?>> all = new ArrayList<>(List.of(inside));
        all.add(DrawnMaps.class);
        for (Class<?> c : all) {
            int own = 0;
            for (Field f : c.getDeclaredFields()) {
                boolean fixed = Modifier.isStatic(f.getModifiers());
                if (!fixed) own++;
                if (fixed && !Modifier.isFinal(f.getModifiers())) fail("static, not final: " + f);
                boolean constant = f.getName().equals("NONE");
                if (c == DrawnMaps.class && !constant && !Modifier.isPrivate(f.getModifiers())) fail("not of the face: " + f);
            }
            if (own > 20) fail("too many fields: " + c);
            if (c != DrawnMaps.class && !Modifier.isStatic(c.getModifiers())) fail("not static: " + c);
            for (Method m : c.getDeclaredMethods()) {
                if (m.getParameterCount() > 7) fail("too many parameters: " + m);
                if (m.isSynthetic()) fail("made by the compiler (a lambda?): " + m);
            }
        }
    }

    private static final String[] FORBIDDEN = {
        "\\bthrow\\b", "\\btry\\b", "\\bcatch\\b", "\\bsynchronized\\b", "\\bassert\\b", "->", "::", "\\bimport\\b",
        "\\bpackage\\b", "\\bdouble\\b", "\\bfloat\\b", "Exact\\(", "\\bstatic \\{", "\\bString\\b", "\\bprotected\\b",
        "\\b(Integer|Long|Math)\\.[A-Z]"
    };

    /** Rules 2 to 6, 11, 12, as far as words tell. */
    private static void words() throws IOException {
        String source = Files.readString(Path.of("src/main/java/DrawnMaps.java"));
        for (int i = 0; i < source.length(); i++) if (source.charAt(i) > 126) fail("a sign above 126 at " + i);
        String bare = source.replaceAll("(?s)/\\*.*?\\*/", "").replaceAll("//[^\n]*", "");
        for (String word : FORBIDDEN) if (Pattern.compile(word).matcher(bare).find()) fail("forbidden: " + word);
        Matcher call = Pattern.compile("\\b([A-Z]\\w*)\\.(\\w+)\\(").matcher(bare);
        Set<String> own = Set.of("Perm", "Kind");
        while (call.find()) {
            String name = call.group(1) + "." + call.group(2);
            if (!own.contains(call.group(1)) && !name.equals("Integer.bitCount")) fail("of the library: " + name);
        }
        // what is made, is made with the object
        for (String line : bare.split("\n")) {
            boolean field = line.matches(" +private final .* = new .*;") || line.matches(" +final .* = new .*;");
            if (line.contains("new ") && !field && !line.strip().equals("kept[i] = new State();")) fail("made anew: " + line);
        }
        lengths(source.split("\n"));
    }

    private static void lengths(String[] lines) {
        int start = -1;
        String indent = "";
        for (int i = 0; i < lines.length; i++) {
            if (lines[i].length() > 100) fail("a long line: " + (i + 1));
            Matcher m = Pattern.compile("^( {4}| {8})(?!return|if|for|while|switch|else)[\\w\\[\\] ]+\\([^;]*\\) \\{$").matcher(lines[i]);
            if (m.matches()) {
                start = i;
                indent = m.group(1);
            }
            if (start >= 0 && lines[i].equals(indent + "}")) {
                if (i - start > 60) fail("a long method at " + (start + 1));
                start = -1;
            }
        }
    }

    public static void main(String[] args) throws IOException {
        declarations();
        face();
        members();
        words();
        System.out.println(wrong == 0 ? "all rules are kept" : wrong + " rules are not kept");
        if (wrong != 0) System.exit(1);
    }
}
