import java.io.IOException;
import java.lang.reflect.InvocationTargetException;
import java.lang.reflect.Method;
import java.lang.reflect.Modifier;
import java.net.URL;
import java.net.URLClassLoader;
import java.nio.charset.StandardCharsets;
import java.nio.file.Files;
import java.nio.file.Path;
import java.nio.file.Paths;
import java.util.ArrayList;
import java.util.Comparator;
import java.util.List;
import java.util.TreeSet;
import java.util.regex.Matcher;
import java.util.regex.Pattern;
import java.util.stream.Collectors;
import java.util.stream.Stream;
import javax.tools.JavaCompiler;
import javax.tools.ToolProvider;

/**
 * The calls that README.md shows, with the answers that it tells for them. They are read off the page and compiled, so
 * that no example there is wrong, or no Java.
 */
public final class ReadmeTests {
    private static final Path PAGE = Paths.get("README.md");
    private static final String CLASS = "ReadmeRows";
    private static final String NEW_OBJECT = "RemandTree x = new RemandTree();";
    private static final Pattern ANSWER =
        Pattern.compile("(-?\\d+|NONE|true|false|\"[^\"]*\"|throws \\w+)(?:[:,;] .*)?");
    private static final Pattern CALL = Pattern.compile("\\bx\\.(\\w+)\\(");

    /** A row of the page: a call, and the answer told for it (null where an object is made). */
    private static final class Row {
        final int line;
        final String code;
        final String due;

        Row(int line, String code, String due) {
            this.line = line;
            this.code = code;
            this.due = due;
        }
    }

    private static final List<Row> ROWS = new ArrayList<>();
    private static final StringBuilder HELPERS = new StringBuilder();

    private ReadmeTests() {
    }

    public static void main(String[] args) throws IOException, ReflectiveOperationException {
        readPage();
        Check.due("rows that README.md shows: some", ROWS.size() > 50, true);
        showsWholeFace();
        Path folder = Files.createTempDirectory("readme");
        try {
            askRows(folder);
        } finally {
            removeFolder(folder);
        }
        Check.close("ReadmeTests");
    }

    // ---- the page

    private static void readPage() throws IOException {
        List<String> lines = Files.readAllLines(PAGE, StandardCharsets.UTF_8);
        boolean inside = false;
        boolean helpers = false;
        for (int k = 0; k < lines.size(); k++) {
            String line = lines.get(k);
            if (!inside) {
                inside = line.equals("```java");
                helpers = inside && k + 1 < lines.size() && lines.get(k + 1).startsWith("/**");
            } else if (line.equals("```")) {
                inside = false;
            } else if (helpers) {
                HELPERS.append(line).append('\n');
            } else {
                takeRow(k + 1, line);
            }
        }
        Check.due("README.md: the last block ends", inside, false);
    }

    private static void takeRow(int line, String text) {
        if (text.equals(NEW_OBJECT)) {
            ROWS.add(new Row(line, "x = new RemandTree()", null));
            return;
        }
        int comment = text.indexOf("//");
        String code = comment < 0 ? text : text.substring(0, comment).trim();
        Matcher answer = ANSWER.matcher(comment < 0 ? "" : text.substring(comment + 2).trim());
        boolean right = code.endsWith(";") && answer.matches();
        Check.due("README.md:" + line + ": a call with its answer, '" + text + "'", right, true);
        if (right) {
            ROWS.add(new Row(line, code.substring(0, code.length() - 1), answer.group(1)));
        }
    }

    private static void showsWholeFace() {
        TreeSet<String> shown = new TreeSet<>();
        StringBuilder all = new StringBuilder(HELPERS);
        ROWS.forEach(row -> all.append(row.code).append('\n'));
        Matcher call = CALL.matcher(all);
        while (call.find()) {
            shown.add(call.group(1));
        }
        for (Method m : RemandTree.class.getDeclaredMethods()) {
            if (Modifier.isPublic(m.getModifiers())) {
                Check.due("README.md shows " + m.getName(), shown.contains(m.getName()), true);
            }
        }
    }

    // ---- the calls

    private static String source() {
        StringBuilder out = new StringBuilder("public final class " + CLASS + " {\nstatic RemandTree x;\n");
        out.append(HELPERS);
        for (int k = 0; k < ROWS.size(); k++) {
            out.append("public static Object row").append(k).append("() { return ").append(ROWS.get(k).code).append("; }\n");
        }
        return out.append("}\n").toString();
    }

    private static void askRows(Path folder) throws IOException, ReflectiveOperationException {
        Path file = folder.resolve(CLASS + ".java");
        Files.write(file, source().getBytes(StandardCharsets.UTF_8));
        JavaCompiler compiler = ToolProvider.getSystemJavaCompiler();
        int rc = compiler == null ? NO_COMPILER : compiler.run(null, null, null,
            "-d", folder.toString(), "-cp", System.getProperty("java.class.path"), file.toString());
        Check.due("javac of what README.md shows", rc, 0);
        if (rc != 0) {
            return;
        }
        try (URLClassLoader loader = new URLClassLoader(new URL[] {folder.toUri().toURL()})) {
            Class<?> rows = loader.loadClass(CLASS);
            int calls = 0;
            for (int k = 0; k < ROWS.size(); k++) {
                Row row = ROWS.get(k);
                Object got = answerOf(rows.getMethod("row" + k));
                if (row.due == null) {
                    calls = 0;
                } else {
                    Check.due("README.md:" + row.line + ": " + row.code, told(got), row.due.equals("NONE") ? "-1" : row.due);
                    calls += callsOf(row.code, got);
                    Check.due("README.md:" + row.line + ": within 512 calls", calls <= 512, true);
                }
            }
        }
    }

    private static final int NO_COMPILER = -1;

    private static Object answerOf(Method row) throws IllegalAccessException {
        try {
            return row.invoke(null);
        } catch (InvocationTargetException e) {
            return e.getCause();
        }
    }

    private static String told(Object answer) {
        if (answer instanceof Throwable) {
            return "throws " + answer.getClass().getSimpleName();
        }
        return answer instanceof String ? "\"" + answer + "\"" : String.valueOf(answer);
    }

    /** How many calls of the face a row makes: read() feeds twenty bytes a call, written() asks for each byte. */
    private static int callsOf(String code, Object answer) {
        if (code.startsWith("read(")) {
            return code.length() / 20 + 4;
        }
        return answer instanceof String ? ((String) answer).length() + 1 : 1;
    }

    private static void removeFolder(Path folder) throws IOException {
        List<Path> inside;
        try (Stream<Path> walk = Files.walk(folder)) {
            inside = walk.sorted(Comparator.reverseOrder()).collect(Collectors.toList());
        }
        for (Path path : inside) {
            Files.delete(path);
        }
    }
}
