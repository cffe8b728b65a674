import java.io.IOException;
import java.lang.reflect.InvocationTargetException;
import java.lang.reflect.Method;
import java.nio.file.Files;
import java.nio.file.Path;
import java.util.ArrayList;
import java.util.LinkedHashSet;
import java.util.List;
import java.util.Set;
import java.util.TreeSet;
import java.util.regex.Matcher;
import java.util.regex.Pattern;

/** What README.md says of the class holds; it is read from the directory that .ci/run works in. */
public final class ReadmeTest {
    private static final Pattern CALL_ROW = Pattern.compile("\\| `(\\w+) (\\w+)\\(([^)]*)\\)` \\|([^|]*)\\|([^|]*)\\|");
    private static final Pattern ORDER_ROW = Pattern.compile("\\| ([1-6 ]+) \\| ([1-6 ]+) \\| ([1-6 ]+) \\|");
    private static final Pattern RUN_LINE = Pattern.compile("heap\\.(\\w+)\\(([^)]*)\\); +// ([^:]*)(:.*)?");
    private static final Pattern EXCEPTION = Pattern.compile("`(\\w+Exception)`");

    public static void main(String[] args) throws IOException {
        List<String> lines = Files.readAllLines(Path.of("README.md"));
        calls(lines);
        constructor(lines);
        orders(lines);
        run(lines);
        files(lines);
        Check.end("ReadmeTest");
    }

    private static List<Matcher> matching(Pattern pattern, List<String> lines) {
        List<Matcher> found = new ArrayList<>();
        for (String line : lines) {
            Matcher m = pattern.matcher(line);
            if (m.matches()) {
                found.add(m);
            }
        }
        return found;
    }

    private static void calls(List<String> lines) {
        Set<String> told = new TreeSet<>();
        for (Matcher m : matching(CALL_ROW, lines)) {
            // the names of parameters are not kept in the class
            String types = m.group(3).replaceAll(" \\w+(?=,|$)", "");
            Set<String> thrown = new LinkedHashSet<>();
            for (Matcher e = EXCEPTION.matcher(m.group(5)); e.find();) {
                thrown.add(e.group(1));
            }
            told.add(m.group(1) + " " + m.group(2) + "(" + types + ") " + thrown);
        }
        Set<String> shown = new TreeSet<>();
        for (Method method : publicMethods()) {
            List<String> types = new ArrayList<>();
            for (Class<?> type : method.getParameterTypes()) {
                types.add(type.getSimpleName());
            }
            List<String> thrown = new ArrayList<>();
            for (Class<?> type : method.getExceptionTypes()) {
                thrown.add(type.getSimpleName());
            }
            shown.add(method.getReturnType() + " " + method.getName() + "(" + String.join(", ", types) + ") " + thrown);
        }
        Check.same("the calls and their exceptions", shown.toString(), told.toString());
    }

    private static List<Method> publicMethods() {
        List<Method> methods = new ArrayList<>();
        for (Method method : ThreeCompactors.class.getMethods()) {
            if (method.getDeclaringClass() == ThreeCompactors.class) {
                methods.add(method);
            }
        }
        return methods;
    }

    private static void constructor(List<String> lines) {
        Check.same("the constructor is told", true,
            lines.contains("| `ThreeCompactors()` | An empty heap, roots with nothing. | |"));
    }

    private static void orders(List<String> lines) {
        List<Matcher> rows = matching(ORDER_ROW, lines);
        Check.same("rows of orders", 3, rows.size());
        for (Matcher row : rows) {
            for (int way = 0; way <= 2; way++) {
                ThreeCompactors x = new ThreeCompactors();
                for (int r = 0; r < 6; r++) {
                    x.allocate(r, 3);
                }
                for (String serial : row.group(1).split(" ")) {
                    x.clear(Integer.parseInt(serial) - 1);
                }
                x.compact(way);
                Check.same("without " + row.group(1) + ", way " + way, Check.serials(x), row.group(way == 1 ? 3 : 2));
            }
        }
    }

    /** Each line is called; a call that answers nothing has only words behind it. */
    private static void run(List<String> lines) {
        ThreeCompactors heap = new ThreeCompactors();
        Set<String> called = new TreeSet<>();
        for (Matcher line : matching(RUN_LINE, lines)) {
            Method method = named(line.group(1));
            String answer = answer(heap, method, line.group(2));
            called.add(method.getName());
            if (method.getReturnType() == void.class) {
                Check.same(line.group(1) + "(" + line.group(2) + ")", "null", answer);
            } else {
                Check.same(line.group(1) + "(" + line.group(2) + ")", answer, line.group(3));
            }
        }
        Check.same("calls in the run", publicMethods().size(), called.size());
        int written = 0;
        for (String line : lines) {
            written += line.startsWith("heap.") ? 1 : 0;
        }
        Check.same("lines of the run that could be read", written, matching(RUN_LINE, lines).size());
    }

    private static Method named(String name) {
        for (Method method : publicMethods()) {
            if (method.getName().equals(name)) {
                return method;
            }
        }
        throw new IllegalStateException("README.md calls " + name);
    }

    private static String answer(ThreeCompactors heap, Method method, String written) {
        String[] parts = written.isEmpty() ? new String[0] : written.split(", ");
        Object[] arguments = new Object[parts.length];
        for (int i = 0; i < parts.length; i++) {
            if (method.getParameterTypes()[i] == boolean.class) {
                arguments[i] = Boolean.valueOf(parts[i]);
            } else {
                arguments[i] = Integer.valueOf(parts[i]);
            }
        }
        try {
            return String.valueOf(method.invoke(heap, arguments));
        } catch (InvocationTargetException e) {
            return e.getCause().getClass().getSimpleName();
        } catch (IllegalAccessException e) {
            return e.toString();
        }
    }

    /** Each test is named in the list of tests, and each that is named is there. */
    private static void files(List<String> lines) throws IOException {
        Set<String> told = new TreeSet<>();
        for (String line : lines) {
            if (line.matches("- `\\w+Test`:.*")) {
                told.add(line.substring(3, line.indexOf('`', 3)) + ".java");
            }
        }
        Set<String> there = new TreeSet<>();
        try (var paths = Files.newDirectoryStream(Path.of("src/test/java"), "*Test.java")) {
            for (Path path : paths) {
                there.add(path.getFileName().toString());
            }
        }
        Check.same("the tests", there.toString(), told.toString());
        Check.same("the program is there", true, Files.exists(Path.of("src/main/java/ThreeCompactors.java")));
    }
}
