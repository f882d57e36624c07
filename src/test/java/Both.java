import java.lang.reflect.InvocationTargetException;
import java.lang.reflect.Method;
import java.nio.charset.StandardCharsets;
import java.util.ArrayList;
import java.util.Arrays;
import java.util.HashMap;
import java.util.List;
import java.util.Map;

/**
 * One RemandTree and one Model: each call goes to both, and the answers must be alike. Nothing is promised behind an
 * object's 512th call: ahead of the 513th another one takes its place, by all calls again that changed something.
 */
final class Both {
    private static final Map<String, Method> REAL = methodsOf(RemandTree.class);
    private static final Map<String, Method> MODEL = methodsOf(Model.class);
    static int wrong = 0;
    static long calls = 0;
    static final Map<String, int[]> SEEN = new HashMap<>();
    private static final int MOST_CALLS = 512;
    private static final List<String> CHANGING = Arrays.asList("feed", "end", "read", "tell", "rule", "keep", "leak", "appeal",
        "round", "go", "write", "tree");

    private RemandTree real = new RemandTree();
    private int realCalls = 0;
    private final List<Object[]> changes = new ArrayList<>();
    final Model model = new Model();
    private final List<String> log = new ArrayList<>();

    private static Map<String, Method> methodsOf(Class<?> of) {
        Map<String, Method> found = new HashMap<>();
        for (Method m : of.getDeclaredMethods()) {
            m.setAccessible(true);
            found.put(m.getName() + m.getParameterCount(), m);
        }
        return found;
    }

    private static Object answer(Method m, Object on, Object... args) {
        try {
            return m.invoke(on, args);
        } catch (InvocationTargetException e) {
            Throwable cause = e.getCause();
            boolean byMachine = cause.getStackTrace().length > 0
                && cause.getStackTrace()[0].getClassName().startsWith("java.");
            return "throws " + cause.getClass().getName() + (byMachine ? " by itself" : "");
        } catch (IllegalAccessException e) {
            throw new IllegalStateException(e);
        }
    }

    private Object askReal(String name, Object... args) {
        realCalls++;
        return answer(REAL.get(name + args.length), real, args);
    }

    private void renew() {
        real = new RemandTree();
        realCalls = 0;
        for (Object[] change : changes) {
            askReal((String) change[0], (Object[]) change[1]);
        }
    }

    /** Of writings the latest alone counts. */
    private void note(String name, Object... args) {
        if (name.equals("write") || name.equals("tree")) {
            changes.removeIf(change -> change[0].equals("write") || change[0].equals("tree"));
        }
        changes.add(new Object[] {name, args});
    }

    /** A call of either; what both answered, if alike; nothing, if there were too many changes to go on. */
    Object call(String name, Object... args) {
        if (changes.size() >= MOST_CALLS - 1) {
            return "spent";
        }
        if (realCalls >= MOST_CALLS) {
            renew();
        }
        Object got = askReal(name, args);
        if (CHANGING.contains(name) && (name.equals("read") || !(got instanceof String))) {
            note(name, args);
        }
        Object want = name.equals("fault") ? (Object) model.fault : answer(MODEL.get(name + args.length), model, args);
        calls++;
        String told = name + Arrays.toString(args) + " -> " + got;
        log.add(told);
        int[] seen = SEEN.computeIfAbsent(name, key -> new int[2]);
        seen[got instanceof String ? 1 : 0]++;
        if (!got.equals(want)) {
            wrong++;
            if (wrong <= 5) {
                System.out.println("WRONG: " + told + ", due is " + want + "; text " + lastText + "; the run:");
                for (String line : log) {
                    if (line.startsWith("rule") || line.startsWith("keep") || line.startsWith("leak")
                            || line.startsWith("appeal") || line.startsWith("round") || line.startsWith("go")
                            || line.startsWith("tell") || line.startsWith("read")) {
                        System.out.println("  " + line);
                    }
                }
            }
        }
        return got;
    }

    String lastText = "";

    void text(String text) {
        lastText = text;
        byte[] bytes = text.getBytes(StandardCharsets.ISO_8859_1);
        int[] padded = new int[(bytes.length + 19) / 20 * 5];
        for (int k = 0; k < bytes.length; k++) {
            padded[k / 4] |= (bytes[k] & 255) << (24 - k % 4 * 8);
        }
        for (int k = 0; k < padded.length; k += 5) {
            call("feed", padded[k], padded[k + 1], padded[k + 2], padded[k + 3], padded[k + 4]);
        }
        call("end", bytes.length);
        call("read");
        call("fault");
    }
}
