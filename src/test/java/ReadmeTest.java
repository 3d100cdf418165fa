import java.io.IOException;
import java.lang.reflect.InvocationTargetException;
import java.lang.reflect.Method;
import java.lang.reflect.Modifier;
import java.nio.file.DirectoryStream;
import java.nio.file.Files;
import java.nio.file.Path;
import java.util.HashMap;
import java.util.List;
import java.util.Map;
import java.util.TreeMap;
import java.util.regex.Matcher;
import java.util.regex.Pattern;

/** README.md held to what the class does: its example, its helper, its table of calls, its table of tests. */
public final class ReadmeTest {
    private static final Path TESTS = Path.of("src/test/java");
    private static final Pattern STEP = Pattern.compile(
        "(?:int (\\w+) = )?office\\.(\\w+)\\(([^)]*)\\); +// (NONE|true|false|-?\\d+|NoSuchElementException)(?:: .*)?");
    private static final Pattern ROW = Pattern.compile(
        "\\| `(\\w+)\\(([^)]*)\\)` \\| [^|]+ \\| (?:never|(?:throws )?`([^`]+)`: [^|]+) \\|");
    private static final String NEVER = "never";

    public static void main(String[] args) throws IOException {
        List<String> lines = Files.readAllLines(Path.of("README.md"));
        example(lines);
        helper(lines);
        tableOfCalls(lines);
        tableOfTests(lines);
        Check.close();
    }

    private static void example(List<String> lines) {
        int from = lines.indexOf("LotOffice office = new LotOffice();");
        Check.due("an office is made in the example", from >= 0, true);
        LotOffice office = new LotOffice();
        Map<String, String> numbers = new HashMap<>();
        int steps = 0;
        for (int i = from + 1; i < lines.size() && !lines.get(i).equals("```"); i++) {
            if (lines.get(i).isEmpty()) {
                continue;
            }
            Matcher step = STEP.matcher(lines.get(i));
            Check.due("a call and its answer: " + lines.get(i), step.matches(), true);
            if (!step.matches()) {
                continue;
            }
            String got = answer(office, step.group(2), step.group(3), numbers);
            Check.due(lines.get(i) + " answered " + got, got.equals(plain(step.group(4))), true);
            if (step.group(1) != null) {
                numbers.put(step.group(1), got);
            }
            steps++;
        }
        Check.due("more than a few calls", steps > 30, true);
    }

    /** The helper that feeds a text: the README's lines stand in this file, too, and feed what they say. */
    private static void helper(List<String> lines) throws IOException {
        int from = lines.indexOf("static void tell(LotOffice office, String text) {");
        Check.due("the helper is there", from >= 0, true);
        StringBuilder wanted = new StringBuilder();
        for (int i = Math.max(0, from); i < lines.size() && !lines.get(i).equals("```"); i++) {
            wanted.append("    ").append(lines.get(i)).append('\n');
        }
        String own = Files.readString(TESTS.resolve("ReadmeTest.java")).replace("private static void tell", "static void tell");
        Check.due("the helper is the one below", own.contains(wanted), true);
        LotOffice office = new LotOffice();
        String[] names = {"a", "abcd", "abcdefgh"};
        for (int i = 0; i < names.length; i++) {
            tell(office, names[i]);
            Check.due("bytes", office.count(9), names[i].length());
            Check.due("the NAME " + names[i], office.man(0, 0), i);
        }
        tell(office, "free if trade = 9; later 300 if school; class 3;");
        Check.due("a text of more than twenty bytes", office.law(0), 3);
        tell(office, ";".repeat(340));
        Check.due("the longest tape", office.count(9), 340);
        tell(office, "");
        Check.due("the empty text", office.count(9), 0);
    }

    private static void tell(LotOffice office, String text) {
        office.end(0);
        int[] five = new int[5];
        for (int at = 0; at < text.length(); at += 20) {
            for (int i = 0; i < 20; i++) {
                int sign = at + i < text.length() ? text.charAt(at + i) : 0;
                five[i / 4] = five[i / 4] << 8 | sign;
            }
            office.feed(five[0], five[1], five[2], five[3], five[4]);
        }
        office.end(text.length());
    }

    /** Each public method has its row, and refuses as that says: on an office with a full tape, all numbers being -1. */
    private static void tableOfCalls(List<String> lines) {
        Map<String, Method> missing = new TreeMap<>();
        for (Method method : LotOffice.class.getDeclaredMethods()) {
            if (Modifier.isPublic(method.getModifiers())) {
                missing.put(method.getName(), method);
            }
        }
        for (String line : lines) {
            Matcher row = ROW.matcher(line);
            if (!row.matches()) {
                continue;
            }
            Method method = missing.remove(row.group(1));
            Check.due("a call of the face, told once: " + line, method != null, true);
            String[] names = row.group(2).isEmpty() ? new String[0] : row.group(2).split(", ");
            if (method != null) {
                Check.due("arguments of " + line, names.length, method.getParameterCount());
                String refused = row.group(3) == null ? NEVER : row.group(3);
                Check.due("only fault() never refuses: " + line, refused.equals(NEVER), row.group(1).equals("fault"));
                refuses(method, refused);
            }
        }
        Check.due("calls without a row: " + missing.keySet(), missing.size(), 0);
    }

    private static void refuses(Method method, String refused) {
        if (refused.equals(NEVER)) {
            return;
        }
        LotOffice office = new LotOffice();
        tell(office, "-".repeat(340));
        StringBuilder all = new StringBuilder();
        for (Class<?> type : method.getParameterTypes()) {
            all.append(all.length() == 0 ? "" : ", ").append(type == boolean.class ? "false" : "-1");
        }
        String got = answer(office, method.getName(), all.toString(), Map.of());
        Check.due(method.getName() + "(" + all + ") answered " + got, got.equals(plain(refused)), true);
    }

    private static String plain(String answer) {
        return answer.equals("NONE") ? String.valueOf(LotOffice.NONE) : answer;
    }

    /** What a call answers, or the name of what it throws. */
    private static String answer(LotOffice office, String name, String told, Map<String, String> numbers) {
        String[] texts = told.isEmpty() ? new String[0] : told.split(", ");
        for (Method method : LotOffice.class.getDeclaredMethods()) {
            if (!method.getName().equals(name) || method.getParameterCount() != texts.length) {
                continue;
            }
            Object[] values = new Object[texts.length];
            for (int i = 0; i < texts.length; i++) {
                String text = numbers.getOrDefault(texts[i], texts[i]);
                boolean isNumber = method.getParameterTypes()[i] == int.class;
                values[i] = isNumber ? (Object) Integer.decode(text) : (Object) Boolean.valueOf(text);
            }
            try {
                return String.valueOf(method.invoke(office, values));
            } catch (InvocationTargetException e) {
                return e.getCause().getClass().getSimpleName();
            } catch (IllegalAccessException e) {
                return "no public call";
            }
        }
        return "no such call";
    }

    private static void tableOfTests(List<String> lines) throws IOException {
        try (DirectoryStream<Path> files = Files.newDirectoryStream(TESTS, "*Test.java")) {
            for (Path file : files) {
                String row = "| `" + file.getFileName().toString().replace(".java", "") + "` |";
                Check.due("in the README " + row, lines.stream().filter(line -> line.startsWith(row)).count(), 1);
            }
        }
        for (String line : lines) {
            Matcher row = Pattern.compile("\\| `(\\w+Test)` \\|.*").matcher(line);
            if (row.matches()) {
                Check.due("a file for " + line, Files.exists(TESTS.resolve(row.group(1) + ".java")), true);
            }
        }
    }
}
