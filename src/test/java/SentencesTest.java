import java.io.IOException;
import java.lang.reflect.Method;
import java.nio.file.Files;
import java.nio.file.Path;

/** SENTENCES.md: no sentence of the document is left out, each has a test, and these tests are there. */
public final class SentencesTest {
    private static final Due DUE = new Due();
    private static final Path TABLE = Path.of("src/test/SENTENCES.md");
    private static final Path DOCUMENT = Path.of("../shared/DOC.md");

    public static void main(String[] args) throws IOException {
        StringBuilder told = new StringBuilder();
        boolean waits = false;
        int tests = 0;
        for (String line : Files.readAllLines(TABLE)) {
            DUE.about(line);
            if (line.startsWith("> ")) {
                told.append(line.substring(2)).append(' ');
                waits = true;
            } else if (line.startsWith("- ")) {
                tests += line.startsWith("- none: ") ? 0 : named(line.substring(2));
                waits = false;
            } else {
                DUE.is("the sentence ahead has a test", waits ? 0 : 1, 1);
            }
        }
        DUE.about("all of them");
        DUE.is("the last has a line behind it", waits ? 0 : 1, 1);
        DUE.is("there are many", tests > 100 ? 1 : 0, 1);
        if (Files.exists(DOCUMENT)) {
            leftOut(plain(told.toString()), plain(Files.readString(DOCUMENT)));
        } else {
            System.out.println(DOCUMENT + " is not here, so it was not compared");
        }
        DUE.end();
    }

    private static int named(String names) {
        String[] all = names.split(", ");
        for (String name : all) {
            DUE.is(name + " is a test", isTest(name) ? 1 : 0, 1);
        }
        return all.length;
    }

    private static boolean isTest(String name) {
        int dot = name.indexOf('.');
        if (dot < 0) {
            return false;
        }
        try {
            for (Method method : Class.forName(name.substring(0, dot)).getDeclaredMethods()) {
                if (method.getName().equals(name.substring(dot + 1)) && method.getParameterCount() == 0) {
                    return true;
                }
            }
        } catch (ClassNotFoundException none) {
            return false;
        }
        return false;
    }

    private static String plain(String text) {
        return text.replaceAll("\\s+", " ").trim();
    }

    private static void leftOut(String told, String document) {
        int same = 0;
        while (same < told.length() && same < document.length() && told.charAt(same) == document.charAt(same)) {
            same++;
        }
        String there = document.substring(same, Math.min(same + 60, document.length()));
        DUE.is("letters told of the document, as far as '" + there + "'", same, document.length());
        DUE.is("letters told in all", told.length(), document.length());
    }
}
