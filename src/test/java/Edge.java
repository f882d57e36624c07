import java.io.IOException;
import java.lang.reflect.InvocationTargetException;
import java.lang.reflect.Method;
import java.nio.charset.StandardCharsets;
import java.nio.file.Files;
import java.nio.file.Path;
import java.nio.file.Paths;
import java.util.Arrays;
import java.util.HashMap;
import java.util.Map;
import java.util.NoSuchElementException;
import java.util.TreeSet;
import java.util.WeakHashMap;

/**
 * What tests of boundary cases share. Each says which promise and which sentence it is for; the sentence must stand in
 * the document just so. Calls are made by their names, so that a wrong answer is told with its call, and are counted:
 * the document promises nothing behind an object's 512th.
 */
final class Edge {
    static final int TERMS = 0;
    static final int MOST_CALLS = 512;
    static final int MIN = Integer.MIN_VALUE;
    static final int MAX = Integer.MAX_VALUE;
    static final Class<?> INDEX = IndexOutOfBoundsException.class;
    static final Class<?> ARGUMENT = IllegalArgumentException.class;
    static final Class<?> STATE = IllegalStateException.class;
    static final Class<?> SUCH = NoSuchElementException.class;
    /** Stands in a call where each of several numbers is put. */
    static final Object IT = new Object();

    /** Makes an object by the same calls each time. */
    interface Made {
        RemandTree make();
    }

    private static final Map<String, Method> FACE = new HashMap<>();
    private static final Map<RemandTree, int[]> CALLS = new WeakHashMap<>();
    private static final Map<Integer, String> SECTIONS = new HashMap<>();
    private static final TreeSet<Integer> SAID = new TreeSet<>();
    private static String sentence = "";

    private Edge() {
    }

    /** Tests behind this are for this sentence of this promise (TERMS: of what stands ahead of the promises). */
    static void says(int promise, String words) {
        SAID.add(promise);
        sentence = (promise == TERMS ? "Terms" : "promise " + promise) + ", '" + words + "': ";
        readDocument();
        boolean there = SECTIONS.isEmpty() || SECTIONS.getOrDefault(promise, "").contains(words);
        Check.due(sentence + "the document says so", there, true);
    }

    /** Every promise has a boundary case. */
    static void allSaid() {
        for (int promise = TERMS; promise <= 41; promise++) {
            Check.due("promise " + promise + " has a test of a boundary case", SAID.contains(promise), true);
        }
    }

    private static void readDocument() {
        Path document = Paths.get("../shared/DOC.md");
        if (!SECTIONS.isEmpty() || !Files.exists(document)) {
            return;
        }
        try {
            String all = new String(Files.readAllBytes(document), StandardCharsets.UTF_8).replaceAll("\\s+", " ");
            String[] parts = all.split("## Promise ");
            SECTIONS.put(TERMS, parts[0]);
            for (int k = 1; k < parts.length; k++) {
                SECTIONS.put(Integer.parseInt(parts[k].substring(0, parts[k].indexOf(':'))), parts[k].split(" ## ")[0]);
            }
        } catch (IOException e) {
            Check.due("the document can be read: " + e, false, true);
        }
    }

    // ---- calls

    private static Method method(String name, int arguments) {
        if (FACE.isEmpty()) {
            for (Method m : RemandTree.class.getMethods()) {
                FACE.put(m.getName() + m.getParameterCount(), m);
            }
        }
        return FACE.get(name + arguments);
    }

    /** What a call answers: a number, a truth, or the class of what it throws. */
    static Object ask(RemandTree x, String name, Object... args) {
        int[] calls = CALLS.computeIfAbsent(x, key -> new int[1]);
        calls[0]++;
        if (calls[0] == MOST_CALLS + 1) {
            Check.due(sentence + "calls of one object", calls[0], MOST_CALLS);
        }
        try {
            return method(name, args.length).invoke(x, args);
        } catch (InvocationTargetException e) {
            Throwable cause = e.getCause();
            boolean own = cause.getStackTrace().length > 0
                && cause.getStackTrace()[0].getClassName().startsWith("RemandTree");
            return own ? cause.getClass() : "the machine threw " + cause;
        } catch (IllegalAccessException e) {
            return "no access";
        }
    }

    static int calls(RemandTree x) {
        return CALLS.computeIfAbsent(x, key -> new int[1])[0];
    }

    private static String told(String name, Object... args) {
        String row = Arrays.toString(args);
        return sentence + name + "(" + row.substring(1, row.length() - 1) + ")";
    }

    /** Asks, and holds the answer against the one that is due. */
    static void is(RemandTree x, Object want, String name, Object... args) {
        Check.due(told(name, args), String.valueOf(ask(x, name, args)), String.valueOf(want));
    }

    /** The answers for 0, 1 and so on in place of IT. */
    static void row(RemandTree x, int[] want, String name, Object... args) {
        for (int k = 0; k < want.length; k++) {
            is(x, want[k], name, put(k, args));
        }
    }

    private static Object[] put(int number, Object... args) {
        Object[] out = args.clone();
        for (int k = 0; k < out.length; k++) {
            out[k] = out[k] == IT ? (Object) number : out[k];
        }
        return out;
    }

    /** Numbers just outside of 0 up to what is one too many, and the farthest ones. */
    static int[] outside(int oneTooMany) {
        return new int[] {MIN, -1, oneTooMany, MAX};
    }

    /** A call throws, and behind it all is as in an object that was made alike without that call. */
    static void refused(Made made, Class<?> want, String name, Object... args) {
        leaves(made, want, name, args);
    }

    /** The same for each of several numbers in place of IT. */
    static void refusedFor(Made made, Class<?> want, int[] numbers, String name, Object... args) {
        for (int number : numbers) {
            refused(made, want, name, put(number, args));
        }
    }

    /** A call answers, and changes nothing. */
    static void leaves(Made made, Object want, String name, Object... args) {
        RemandTree x = made.make();
        is(x, want, name, args);
        RemandTree twin = made.make();
        String call = told(name, args);
        Check.due(call + " changes nothing", look(x), look(twin));
        Check.due(call + " leaves tape and fault", lookAtTape(x), lookAtTape(twin));
    }

    // ---- all that can be seen

    private static void lookBy(StringBuilder out, RemandTree x, String name, Object... args) {
        out.append(name).append(Arrays.toString(args)).append('=').append(ask(x, name, args)).append(' ');
    }

    static int number(RemandTree x, String name, Object... args) {
        Object answer = ask(x, name, args);
        return answer instanceof Integer ? (Integer) answer : -9;
    }

    /** All but tape and fault. */
    static String look(RemandTree x) {
        StringBuilder out = new StringBuilder();
        for (int what = 0; what <= 10; what++) {
            lookBy(out, x, "count", what);
        }
        for (int k = 0; k < 6; k++) {
            lookBy(out, x, "bar", 1 + k / 3, k % 3);
        }
        int issues = number(x, "count", 0);
        for (int i = 0; i < issues; i++) {
            for (int what = 0; what <= 2; what++) {
                lookBy(out, x, "issue", i, what);
            }
            lookBy(out, x, "name", i, 0);
            lookBy(out, x, "name", i, 1);
        }
        lookAtNodes(out, x, number(x, "count", 1), issues);
        for (String name : new String[] {"harmless", "pivotal"}) {
            lookBy(out, x, name);
        }
        lookBy(out, x, "ways", 0);
        return out.append(written(x)).toString();
    }

    private static void lookAtNodes(StringBuilder out, RemandTree x, int nodes, int issues) {
        boolean few = nodes <= 8;
        for (int n = 0; n < nodes; n++) {
            for (int what = 0; what <= 14; what++) {
                if (few || what == 1 || what == 2 || what == 4 || what == 6) {
                    lookBy(out, x, "node", n, what);
                }
            }
            for (int i = 0; i < issues && few; i++) {
                lookBy(out, x, "decided", n, i, 0);
                lookBy(out, x, "decided", n, i, 1);
                lookBy(out, x, "decided", n, i, 3);
            }
        }
    }

    /** The tape's length, its text, and the fault; the tape is used up by that. */
    static String lookAtTape(RemandTree x) {
        StringBuilder out = new StringBuilder().append(ask(x, "fault"));
        int length = number(x, "feed", 0, 0, 0, 0, 0) - 20;
        if (length == -21) {
            length = 400;
            while (length > 380 && !Boolean.TRUE.equals(ask(x, "end", length))) {
                length--;
            }
        }
        ask(x, "end", length);
        out.append(" tape ").append(length).append(" read ").append(ask(x, "read")).append(" fault ").append(ask(x, "fault"));
        return out.append(" ways ").append(ask(x, "ways", 0)).toString();
    }

    static String written(RemandTree x) {
        StringBuilder out = new StringBuilder();
        int bytes = number(x, "count", 10);
        for (int k = 0; k < bytes; k++) {
            out.append((char) number(x, "octet", k));
        }
        return out.toString();
    }

    /** What is written by a call, with its length as the answer, nothing behind it. */
    static void writes(RemandTree x, String want, String name, Object... args) {
        is(x, want.length(), name, args);
        Check.due(told(name, args) + " wrote", written(x), want);
        is(x, want.length(), "count", 10);
        is(x, -1, "octet", want.length());
    }

    // ---- texts

    /** Puts a text behind the tape, which is empty. */
    static void tape(RemandTree x, String text) {
        byte[] bytes = text.getBytes(StandardCharsets.ISO_8859_1);
        int[] numbers = new int[(bytes.length + 19) / 20 * 5];
        for (int k = 0; k < bytes.length; k++) {
            numbers[k / 4] |= (bytes[k] & 255) << (24 - k % 4 * 8);
        }
        for (int k = 0; k < numbers.length; k += 5) {
            ask(x, "feed", numbers[k], numbers[k + 1], numbers[k + 2], numbers[k + 3], numbers[k + 4]);
        }
        ask(x, "end", bytes.length);
    }

    static RemandTree of(String text) {
        RemandTree x = new RemandTree();
        tape(x, text);
        Object issues = ask(x, "read");
        Check.due(sentence + "read() of '" + text + "' answered " + issues, issues instanceof Integer, true);
        return x;
    }

    /** A text that is right, of so many issues. */
    static void right(int issues, String text) {
        RemandTree x = new RemandTree();
        tape(x, text);
        Check.due(sentence + "read() of '" + text + "'", String.valueOf(ask(x, "read")), String.valueOf(issues));
        Check.due(sentence + "fault() of '" + text + "'", String.valueOf(ask(x, "fault")), "-1");
    }

    /** A text whose fault is where the sign ^ stands, which is not of the text. */
    static void wrong(String marked) {
        int at = marked.indexOf('^');
        wrong(at, marked.substring(0, at) + marked.substring(at + 1));
    }

    static void wrong(int at, String text) {
        RemandTree x = new RemandTree();
        tape(x, text);
        Check.due(sentence + "read() of '" + text + "'", String.valueOf(ask(x, "read")), String.valueOf(ARGUMENT));
        Check.due(sentence + "fault() of '" + text + "'", String.valueOf(ask(x, "fault")), String.valueOf(at));
        is(x, 0, "count", 0);
    }

    /** An issue is ruled for a side. */
    static void rule(RemandTree x, int issue, int side, int flaw) {
        Object left = ask(x, "rule", issue, side, flaw);
        Check.due(sentence + "rule(" + issue + ", " + side + ", " + flaw + ") answered " + left, left instanceof Integer, true);
    }

    /** An issue is ruled, and who lost it keeps it. */
    static void kept(RemandTree x, int issue, int side, int flaw) {
        rule(x, issue, side, flaw);
        is(x, true, "keep", issue, 1 - side);
    }
}
