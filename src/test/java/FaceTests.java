import java.io.IOException;
import java.lang.reflect.Field;
import java.lang.reflect.Method;
import java.lang.reflect.Modifier;
import java.nio.file.Files;
import java.nio.file.Paths;
import java.util.Arrays;
import java.util.TreeSet;

/** The face is the document's and nothing more; the source keeps to what LANGUAGE.md leaves. */
public final class FaceTests {
    private static final String[] FACE = {
        "int feed(int, int, int, int, int)", "boolean end(int)", "int read() IllegalArgument", "int fault()",
        "int issue(int, int) IndexOutOfBounds NoSuchElement", "int name(int, int) IndexOutOfBounds",
        "int bar(int, int) IllegalArgument", "int tell(int, int, int) IllegalArgument",
        "int rule(int, int, int) IllegalArgument IllegalState IndexOutOfBounds",
        "boolean keep(int, int) IllegalArgument IllegalState IndexOutOfBounds",
        "boolean leak(int) IllegalState IndexOutOfBounds", "int appeal(int, int) IllegalArgument IllegalState",
        "int round() IllegalState", "int go(int) IndexOutOfBounds",
        "int preview(int, int, int) IllegalArgument IllegalState NoSuchElement",
        "int best(int, boolean) IllegalArgument IllegalState",
        "int why(int, int) IllegalArgument IllegalState IndexOutOfBounds",
        "int due(int, boolean) IllegalArgument IllegalState", "int pages(int) IllegalArgument",
        "int secure(int, int, int) IllegalArgument IllegalState NoSuchElement",
        "int chain(int, int) IllegalArgument IllegalState NoSuchElement", "int swing(boolean)",
        "int fates(int) IllegalState NoSuchElement", "int node(int, int) IndexOutOfBounds NoSuchElement",
        "int decided(int, int, int) IndexOutOfBounds NoSuchElement",
        "int times(int, int, int) IndexOutOfBounds NoSuchElement", "int harmless()", "int pivotal()",
        "int ways(int) IllegalArgument", "int write(int) IndexOutOfBounds", "int octet(int)",
        "int tally(int, int, int) IllegalArgument IndexOutOfBounds", "int unlike(int, int) IndexOutOfBounds",
        "int widened(int) IndexOutOfBounds", "int leaf(int)", "int tree()", "int path(int, int) IndexOutOfBounds",
        "int common(int, int) IndexOutOfBounds", "int child(int, int) IndexOutOfBounds", "int count(int)"};

    private FaceTests() {
    }

    public static void main(String[] args) throws IOException {
        face();
        inside();
        source();
        Check.close("FaceTests");
    }

    private static String told(Method m) {
        StringBuilder out = new StringBuilder(m.getReturnType().getName()).append(" ").append(m.getName()).append("(");
        for (Class<?> type : m.getParameterTypes()) {
            out.append(out.charAt(out.length() - 1) == '(' ? "" : ", ").append(type.getName());
        }
        TreeSet<String> thrown = new TreeSet<>();
        for (Class<?> type : m.getExceptionTypes()) {
            thrown.add(type.getSimpleName().replace("Exception", ""));
        }
        out.append(")");
        thrown.forEach(name -> out.append(" ").append(name));
        return out.toString();
    }

    private static void face() {
        Class<?> face = RemandTree.class;
        Check.due("public final", Modifier.isPublic(face.getModifiers()) && Modifier.isFinal(face.getModifiers()), true);
        TreeSet<String> want = new TreeSet<>(Arrays.asList(FACE));
        TreeSet<String> got = new TreeSet<>();
        for (Method m : face.getDeclaredMethods()) {
            if (!Modifier.isPrivate(m.getModifiers())) {
                got.add(told(m));
                Check.due("public " + m.getName(), Modifier.isPublic(m.getModifiers()), true);
            } else {
                for (String wanted : FACE) {
                    Check.due("a private name", wanted.contains(" " + m.getName() + "("), false);
                }
            }
        }
        Check.due("methods", got.toString(), want.toString());
        for (Field f : face.getDeclaredFields()) {
            boolean hidden = Modifier.isPrivate(f.getModifiers()) || f.isSynthetic();
            Check.due("field " + f.getName(), hidden || f.getName().equals("NONE"), true);
            Check.due("no static state " + f.getName(),
                !Modifier.isStatic(f.getModifiers()) || Modifier.isFinal(f.getModifiers()), true);
        }
        Check.due("constructors", face.getDeclaredConstructors().length, 1);
    }

    private static void inside() {
        Class<?>[] inner = RemandTree.class.getDeclaredClasses();
        Check.due("some twelve classes", inner.length <= 11, true);
        for (Class<?> type : inner) {
            int modifiers = type.getModifiers();
            Check.due("static " + type, Modifier.isStatic(modifiers), true);
            Check.due("hidden " + type, !Modifier.isPublic(modifiers) && !Modifier.isProtected(modifiers), true);
            int fields = 0;
            for (Field f : type.getDeclaredFields()) {
                boolean constant = Modifier.isStatic(f.getModifiers());
                fields += constant ? 0 : 1;
                Check.due("final " + f, !constant || Modifier.isFinal(f.getModifiers()), true);
            }
            Check.due("some twenty fields " + type, fields <= 20, true);
            for (Method m : type.getDeclaredMethods()) {
                for (String wanted : FACE) {
                    Check.due("a name of the face inside " + type, wanted.contains(" " + m.getName() + "("), false);
                }
            }
        }
    }

    private static void source() throws IOException {
        String source = new String(Files.readAllBytes(Paths.get("src/main/java/RemandTree.java")));
        String code = source.replaceAll("(?s)/\\*.*?\\*/", "").replaceAll("//[^\n]*", "").replaceAll("\"[^\"\n]*\"", "\"\"");
        for (String word : new String[] {"->", "::", "catch", "try ", "finally", "synchronized", "assert", "package",
            "System.out", "Random", "Thread", "toString", "hashCode", ".equals", "Exact(", "throw e", "while (true)"}) {
            Check.due("the source has " + word, code.contains(word), false);
        }
        int imports = code.split("\nimport |^import ").length - 1;
        Check.due("imports", imports, 1);
        Check.due("the import", code.contains("import java.util.NoSuchElementException;"), true);
        int open = 0;
        int begun = 0;
        String[] lines = code.split("\n");
        for (int k = 0; k < lines.length; k++) {
            if (lines[k].matches("    (    )?[^ }].*\\) (throws .*)?\\{") || lines[k].matches(" +throws .*\\{")) {
                begun = k;
                open++;
            }
            if (lines[k].matches("    (    )?\\}")) {
                Check.due("a method of some sixty lines ends at line " + (k + 1), k - begun <= 60 || begun == 0, true);
                begun = 0;
            }
        }
        Check.due("methods were seen", open > 100, true);
    }
}
