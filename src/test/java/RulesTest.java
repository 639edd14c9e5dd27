import java.io.IOException;
import java.lang.reflect.Constructor;
import java.lang.reflect.Executable;
import java.lang.reflect.Field;
import java.lang.reflect.Method;
import java.lang.reflect.Modifier;
import java.nio.file.Files;
import java.nio.file.Path;
import java.util.Arrays;
import java.util.List;
import java.util.Set;
import java.util.TreeSet;
import java.util.regex.Matcher;
import java.util.regex.Pattern;

/** The document's face, and those rules of LANGUAGE.md that can be read off the file or the class. */
public final class RulesTest {
    private static final Due DUE = new Due();
    private static final Path FILE = Path.of("src/main/java/SpreadDesk.java");

    private static final String[] FACE = {
        "int type(int)", "int clear()", "int desk()", "long source(int,int)", "long joint(int,int)",
        "int values(int,int)", "int spreads(int,int)", "int joints(int,int,int)", "int undo()",
        "long value(int)", "long slope(int,int)", "long bend(int,int,int)", "long whole(int)",
        "long together(int,int)", "long share(int,int)", "long left(int,int)", "int fewest(int,long)",
        "long takes(int,int)", "int first(int,int)", "long off(int,int,int)", "int sees(int,long)",
        "int forget()", "int unseen(int)", "int keep(int)", "int back(int)", "int formula(int,int)",
        "int count(int)"};

    private static final String[] GROUPS = {
        "what is told: type clear desk source joint", "what is done: values spreads joints undo",
        "formulas: value slope bend whole together share", "sure sources: left fewest takes first off",
        "which source: sees forget unseen", "images: keep back formula count"};

    public static void main(String[] args) throws IOException {
        face();
        groups();
        classes();
        words();
        objects();
        DUE.end();
    }

    private static void must(String what, boolean holds) {
        DUE.is(what, holds ? 1 : 0, 1);
    }

    private static void face() {
        DUE.about("rule 1");
        Set<String> found = new TreeSet<>();
        Set<String> names = new TreeSet<>();
        for (Method method : SpreadDesk.class.getDeclaredMethods()) {
            if (Modifier.isPublic(method.getModifiers())) {
                String full = method.toGenericString().replace("SpreadDesk.", "");
                found.add(full.substring("public ".length()));
                names.add(method.getName());
            } else {
                must(method + " is private", Modifier.isPrivate(method.getModifiers()));
            }
        }
        must("the public methods are those of the document", found.equals(new TreeSet<>(List.of(FACE))));
        for (Class<?> own : allClasses()) {
            for (Method method : own.getDeclaredMethods()) {
                boolean public_ = own == SpreadDesk.class && Modifier.isPublic(method.getModifiers());
                must(method + " bears a name of its own", public_ || !names.contains(method.getName()));
            }
        }
        Set<String> constants = new TreeSet<>();
        for (Field field : SpreadDesk.class.getDeclaredFields()) {
            if (Modifier.isPublic(field.getModifiers())) {
                constants.add(field.getType() + " " + field.getName());
            } else {
                must(field + " is private", Modifier.isPrivate(field.getModifiers()));
            }
        }
        must("the public constants", constants.toString().equals("[int BAD, int FULL, int NONE, int STATE, long NO]"));
        Constructor<?>[] made = SpreadDesk.class.getDeclaredConstructors();
        must("one public constructor", made.length == 1 && Modifier.isPublic(made[0].getModifiers())
            && made[0].getParameterCount() == 0);
        must("public and final", SpreadDesk.class.getModifiers() == (Modifier.PUBLIC | Modifier.FINAL));
    }

    private static void groups() throws IOException {
        DUE.about("Ahead of the calls the interface says");
        List<String> found = new java.util.ArrayList<>();
        Matcher line = Pattern.compile("// ---- (.*)\\.?|public (?:int|long) ([a-z]+)\\(").matcher(Files.readString(FILE));
        while (line.find()) {
            if (line.group(1) != null) {
                found.add(line.group(1) + ":");
            } else if (!found.isEmpty()) {
                found.set(found.size() - 1, found.get(found.size() - 1) + " " + line.group(2));
            }
        }
        must("the calls in their order, under their headings: " + found, found.equals(List.of(GROUPS)));
    }

    private static List<Class<?>> allClasses() {
        List<Class<?>> all = new java.util.ArrayList<>(Arrays.asList(SpreadDesk.class.getDeclaredClasses()));
        all.add(SpreadDesk.class);
        return all;
    }

    private static void classes() {
        DUE.about("rules 2, 5, 11");
        List<Class<?>> all = allClasses();
        must("at most twelve classes", all.size() <= 12);
        for (Class<?> own : all) {
            boolean inside = own != SpreadDesk.class;
            int modifiers = own.getModifiers();
            must(own + " is static", !inside || Modifier.isStatic(modifiers));
            must(own + " is hidden", !inside || !Modifier.isPublic(modifiers) && !Modifier.isProtected(modifiers));
            must(own + " has no class inside", !inside || own.getDeclaredClasses().length == 0);
            int fields = 0;
            for (Field field : own.getDeclaredFields()) {
                boolean isStatic = Modifier.isStatic(field.getModifiers());
                must(field + " is final if static", !isStatic || Modifier.isFinal(field.getModifiers()));
                must(field + " is a number if static", !isStatic || field.getType().isPrimitive());
                fields += isStatic ? 0 : 1;
            }
            must(own + " has at most twenty fields", fields <= 20);
            for (Method method : own.getDeclaredMethods()) {
                seven(method);
            }
            for (Constructor<?> constructor : own.getDeclaredConstructors()) {
                seven(constructor);
            }
        }
    }

    private static void seven(Executable one) {
        must(one + " takes at most seven", one.getParameterCount() <= 7);
    }

    private static String withoutComments() throws IOException {
        String text = Files.readString(FILE);
        return Pattern.compile("/\\*.*?\\*/|//[^\n]*", Pattern.DOTALL).matcher(text).replaceAll("");
    }

    private static void words() throws IOException {
        DUE.about("rules 3, 4, 6, 11");
        String code = withoutComments();
        String banned = "throw|throws|try|catch|finally|synchronized|assert|import|package|null|equals|hashCode"
            + "|toString|instanceof|float|double|System|String|Object|Exact|native|volatile|transient|var|->|::|\"";
        Matcher found = Pattern.compile("(?<![A-Za-z])(" + banned + ")(?![A-Za-z])").matcher(code);
        must("no banned word" + (found.find() ? ": " + found.group() : ""), !found.find(0));
        must("no division", !code.contains("/") && !code.contains("%"));
        must("signs 1 to 127", code.chars().allMatch(c -> c >= 1 && c <= 127));
        int lines = 0;
        for (String line : Files.readAllLines(FILE)) {
            lines = line.isEmpty() ? 0 : lines + 1;
            must("no more than sixty lines at a stretch", lines <= 60);
        }
    }

    /** All rows are made in constructors, so that no call makes an object. */
    private static void objects() throws IOException {
        DUE.about("rule 12");
        String constructors = "(?m)^( {4}(?: {4})?)(?:public )?[A-Z][A-Za-z]*\\([^)]*\\) \\{\n(?:.*\n)*?\\1\\}\n";
        String code = withoutComments().replaceAll(constructors, "");
        must("the constructors make objects", withoutComments().contains("new "));
        must("nothing else does", !code.contains("new ") && !code.contains("clone") && !code.contains("copyOf"));
    }
}
