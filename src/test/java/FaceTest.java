import java.io.IOException;
import java.lang.reflect.Constructor;
import java.lang.reflect.Field;
import java.lang.reflect.Method;
import java.lang.reflect.Modifier;
import java.nio.file.Files;
import java.nio.file.Path;
import java.util.Arrays;
import java.util.List;
import java.util.TreeSet;
import java.util.regex.Matcher;
import java.util.regex.Pattern;

/** The public face to the letter, and those rules of LANGUAGE.md that can be seen from outside or in the text. */
public final class FaceTest {
    private static final String[] FACE = {
        "int feed(int, int, int, int, int)", "boolean end(int)", "int next(int)", "int man(int, int)",
        "boolean birth(int, int, int)", "boolean fact(int, int, int, int, int)", "boolean exam(int, int, int)",
        "boolean same(int, int)", "int law(int)", "int fault()", "int lot(int, int)", "boolean weeks(int)",
        "boolean letters(int)", "boolean hands(int, int, int)", "int who(int, int)", "int age(int, int, int)",
        "int brothers(int, int)", "int state(int, int, int)", "int why()", "int quota(int, int, int)",
        "int place(int, int, int)", "int called(int, int)", "boolean send(int, int, int)", "int serves(int, int, int)",
        "int mended(int, int, int, boolean)", "int mendedAt(int)", "int appeal(int, int)",
        "long mixed(int, int, int, int, int) throws java.util.NoSuchElementException",
        "long doubt(int, int, int) throws java.util.NoSuchElementException", "int leaves(int, int)",
        "int gone(int, int)", "int count(int)"};

    public static void main(String[] args) throws IOException {
        face();
        classesInside();
        text(Path.of(args.length > 0 ? args[0] : "src/main/java/LotOffice.java"));
        Check.close();
    }

    private static void face() {
        Class<?> type = LotOffice.class;
        Check.due("public final", type.getModifiers(), Modifier.PUBLIC | Modifier.FINAL);
        TreeSet<String> due = new TreeSet<>(Arrays.asList(FACE));
        TreeSet<String> names = new TreeSet<>();
        for (String line : FACE) {
            names.add(line.replaceFirst("^\\w+ (\\w+).*$", "$1"));
        }
        for (Method method : type.getDeclaredMethods()) {
            if (Modifier.isPrivate(method.getModifiers())) {
                Check.due("private " + method.getName() + " has a public one's name", names.contains(method.getName()), false);
                continue;
            }
            Check.due(method + " is public alone", method.getModifiers(), Modifier.PUBLIC);
            String line = method.toGenericString().replaceFirst("^public ", "").replace("LotOffice.", "").replace(",", ", ");
            Check.due(line + " is in the face", due.remove(line), true);
        }
        Check.due("missing: " + due, due.size(), 0);
        Constructor<?>[] constructors = type.getDeclaredConstructors();
        Check.due("one constructor", constructors.length, 1);
        Check.due("it is public, without arguments", constructors[0].getModifiers() == Modifier.PUBLIC
            && constructors[0].getParameterCount() == 0, true);
        for (Field field : type.getDeclaredFields()) {
            boolean none = field.getName().equals("NONE");
            Check.due(field + " is private, or NONE", Modifier.isPrivate(field.getModifiers()), !none);
        }
    }

    private static void classesInside() {
        Class<?>[] inside = LotOffice.class.getDeclaredClasses();
        Check.due("some twelve classes", inside.length <= 12, true);
        for (Class<?> type : inside) {
            boolean hidden = !Modifier.isPublic(type.getModifiers()) && !Modifier.isProtected(type.getModifiers());
            Check.due(type + " is hidden and static", hidden && Modifier.isStatic(type.getModifiers()), true);
            long fields = Arrays.stream(type.getDeclaredFields()).filter(f -> !Modifier.isStatic(f.getModifiers())).count();
            Check.due(type + " has some twenty fields, " + fields, fields <= 20, true);
        }
        long own = Arrays.stream(LotOffice.class.getDeclaredFields()).filter(f -> !Modifier.isStatic(f.getModifiers())).count();
        Check.due("twenty fields at most, " + own, own <= 20, true);
    }

    private static void text(Path path) throws IOException {
        List<String> lines = Files.readAllLines(path);
        String code = String.join("\n", lines).replaceAll("(?s)/\\*.*?\\*/", "").replaceAll("//[^\n]*", "");
        String[] never = {"->", "::", "Exact\\b", "\\bcatch\\b", "\\btry\\b", "\\bfinally\\b", "\\bsynchronized\\b",
            "\\bassert\\b", "\\bSystem\\b", "\\bpackage\\b", "\\bvar\\b", "\\bObject\\b", "\\bhashCode\\b", "\\bordinal\\b",
            "\\bfloat\\b", "\\bdouble\\b", "\\bgetMessage\\b", "\\bstatic\\s*\\{", "while \\(true\\)"};
        for (String pattern : never) {
            Check.due("in the text: " + pattern, Pattern.compile(pattern).matcher(code).find(), false);
        }
        Matcher imports = Pattern.compile("import ([^;]*);").matcher(code);
        while (imports.find()) {
            Check.due("import " + imports.group(1), imports.group(1).matches("java.util.(Arrays|NoSuchElementException)"), true);
        }
        Check.due("signs 1 to 127", code.chars().allMatch(c -> c > 0 && c < 128), true);
        methodsAreShort(lines);
    }

    private static void methodsAreShort(List<String> lines) {
        String start = "";
        int from = 0;
        for (int i = 0; i < lines.size(); i++) {
            String line = lines.get(i);
            if (line.matches("( {4}| {8})\\S.*\\(.*\\).*\\{")) {
                start = line;
                from = i;
            }
            boolean ends = !start.isEmpty() && line.equals(start.replaceFirst("\\S.*$", "") + "}");
            if (ends) {
                Check.due("short: " + start.trim(), i - from < 60, true);
                start = "";
            }
        }
    }
}
