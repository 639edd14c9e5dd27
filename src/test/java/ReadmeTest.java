import java.io.ByteArrayOutputStream;
import java.io.IOException;
import java.io.PrintStream;
import java.lang.reflect.Method;
import java.lang.reflect.Modifier;
import java.net.URL;
import java.net.URLClassLoader;
import java.nio.file.Files;
import java.nio.file.Path;
import java.util.ArrayList;
import java.util.List;
import java.util.Set;
import java.util.TreeSet;
import java.util.regex.Matcher;
import java.util.regex.Pattern;
import javax.tools.ToolProvider;

/** README.md: its example as it stands there, its table of texts, a row of its table for each call. */
public final class ReadmeTest {
    private static final Due DUE = new Due();

    public static void main(String[] args) throws IOException, ReflectiveOperationException {
        String readme = Files.readString(Path.of("README.md"));
        example(readme);
        texts(readme);
        calls(readme);
        DUE.end();
    }

    private static List<String> found(String pattern, String text) {
        List<String> all = new ArrayList<>();
        Matcher matcher = Pattern.compile(pattern, Pattern.MULTILINE).matcher(text);
        while (matcher.find()) {
            all.add(matcher.group(1));
        }
        return all;
    }

    /** Each line that prints has what it prints behind it, so these must be the same numbers. */
    private static void example(String readme) throws IOException, ReflectiveOperationException {
        DUE.about("the example");
        String program = found("^```java\n([^`]*)^```", readme).get(0);
        List<String> lines = found("^ *(System\\.out\\.println.*)$", program);
        List<String> due = found("println\\(.*\\); +// (-?[0-9]+): ", program);
        DUE.is("lines that print and say what", due.size(), lines.size());
        List<String> got = printed(program);
        DUE.is("lines printed", got.size(), due.size());
        for (int i = 0; i < due.size() && i < got.size(); i++) {
            DUE.is(lines.get(i), Long.parseLong(got.get(i)), Long.parseLong(due.get(i)));
        }
    }

    private static List<String> printed(String program) throws IOException, ReflectiveOperationException {
        Path folder = Files.createTempDirectory("readme");
        Path file = folder.resolve("Example.java");
        Files.writeString(file, program);
        int failed = ToolProvider.getSystemJavaCompiler().run(null, null, null, "-cp",
            System.getProperty("java.class.path"), "-d", folder.toString(), file.toString());
        DUE.is("compiling the example", failed, 0);
        PrintStream before = System.out;
        ByteArrayOutputStream bytes = new ByteArrayOutputStream();
        try (URLClassLoader loader = new URLClassLoader(new URL[] {folder.toUri().toURL()})) {
            System.setOut(new PrintStream(bytes, true));
            loader.loadClass("Example").getMethod("main", String[].class).invoke(null, (Object) new String[0]);
        } finally {
            System.setOut(before);
            Files.deleteIfExists(folder.resolve("Example.class"));
            Files.delete(file);
            Files.delete(folder);
        }
        return bytes.toString().lines().toList();
    }

    private static void texts(String readme) {
        DUE.about("the texts");
        Matcher row = Pattern.compile("^\\| `([^`]*)` \\| (-?[0-9]+) \\| ", Pattern.MULTILINE).matcher(readme);
        int rows = 0;
        while (row.find()) {
            rows++;
            DUE.items(row.group(1), Integer.parseInt(row.group(2)));
        }
        DUE.is("rows", rows, 14);
    }

    private static void calls(String readme) {
        DUE.about("the calls");
        List<String> named = found("^\\| `([a-z]+\\([a-z, ]*\\))` \\| ", readme);
        Set<String> rows = new TreeSet<>();
        for (String call : named) {
            String numbers = call.substring(call.indexOf('('));
            rows.add(call.substring(0, call.indexOf('(')) + " " + numbers.replaceAll("[^,a-z]", "").split(",").length
                + (numbers.equals("()") ? " none" : ""));
        }
        Set<String> face = new TreeSet<>();
        for (Method method : SpreadDesk.class.getDeclaredMethods()) {
            if (Modifier.isPublic(method.getModifiers())) {
                int many = method.getParameterCount();
                face.add(method.getName() + " " + Math.max(1, many) + (many == 0 ? " none" : ""));
            }
        }
        DUE.is("rows", named.size(), 27);
        DUE.is("a row for each call, with its numbers: " + rows, rows.equals(face) ? 1 : 0, 1);
    }
}
