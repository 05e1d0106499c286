import java.io.IOException;
import java.lang.reflect.Method;
import java.nio.file.DirectoryStream;
import java.nio.file.Files;
import java.nio.file.Path;
import java.util.regex.Matcher;
import java.util.regex.Pattern;

/** README.md: its examples answer what it tells, and it names each call of the class and each test. */
public final class ReadmeTest {
    private static final Pattern EXAMPLE = Pattern.compile("(?s)```java\n(.*?)```");
    private static final Pattern CALL = Pattern.compile("x\\.(\\w+)\\((.*)\\); +// (-?\\d+)\\b.*");
    private static final String MADE = "DrawnMaps x = new DrawnMaps();";
    private static int wrong = 0;

    private static void fail(String what) {
        wrong++;
        System.out.println(what);
    }

    private static void examples(String page) throws ReflectiveOperationException {
        Matcher example = EXAMPLE.matcher(page);
        int many = 0;
        while (example.find()) {
            many++;
            String[] lines = example.group(1).split("\n");
            if (!lines[0].equals(MADE)) fail("an example begins without an object: " + lines[0]);
            DrawnMaps x = new DrawnMaps();
            for (int i = 1; i < lines.length; i++) line(x, lines[i]);
        }
        if (many < 5) fail("there are " + many + " examples");
    }

    private static void line(DrawnMaps x, String line) throws ReflectiveOperationException {
        Matcher call = CALL.matcher(line);
        if (!call.matches()) {
            fail("neither a call nor its answer: " + line);
            return;
        }
        String[] words = call.group(2).isEmpty() ? new String[0] : call.group(2).split(", ");
        Object[] values = new Object[words.length];
        for (int i = 0; i < words.length; i++) {
            values[i] = words[i].equals("DrawnMaps.NONE") ? Integer.valueOf(DrawnMaps.NONE) : Integer.decode(words[i]);
        }
        for (Method one : DrawnMaps.class.getMethods()) {
            if (one.getDeclaringClass() == DrawnMaps.class && one.getName().equals(call.group(1))) {
                long got = ((Number) one.invoke(x, values)).longValue();
                if (got != Long.parseLong(call.group(3))) fail(line + " -- it answered " + got);
                return;
            }
        }
        fail("no such call: " + line);
    }

    private static void names(String page) throws IOException {
        for (Method one : DrawnMaps.class.getMethods()) {
            boolean own = one.getDeclaringClass() == DrawnMaps.class;
            if (own && !page.contains("`" + one.getName() + "`")) fail("not named: " + one.getName());
        }
        try (DirectoryStream<Path> tests = Files.newDirectoryStream(Path.of("src/test/java"), "*.java")) {
            for (Path one : tests) {
                String name = one.getFileName().toString().replace(".java", "");
                if (!page.contains("`" + name + "`")) fail("not named: " + name);
            }
        }
        Matcher path = Pattern.compile("(?:src|\\.\\./shared|\\.ci)/[\\w./]*\\w").matcher(page);
        while (path.find()) if (!Files.exists(Path.of(path.group()))) fail("not there: " + path.group());
    }

    public static void main(String[] args) throws IOException, ReflectiveOperationException {
        String page = Files.readString(Path.of("README.md"));
        examples(page);
        names(page);
        System.out.println(wrong == 0 ? "the page is right" : wrong + " places are not right");
        if (wrong != 0) System.exit(1);
    }
}
