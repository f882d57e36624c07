import java.lang.reflect.InvocationTargetException;
import java.lang.reflect.Method;
import java.util.ArrayList;
import java.util.Arrays;
import java.util.Comparator;
import java.util.List;
import java.util.Random;

/** Any arguments in any state: nothing is thrown but by a throw of the class itself, and as the face says. */
public final class MachineTests {
    private static final int[] ODD = {Integer.MIN_VALUE, Integer.MIN_VALUE + 1, -401, -41, -9, -2, -1, 0, 1, 2, 3, 4, 5, 6, 7,
        8, 9, 10, 11, 14, 15, 16, 39, 40, 41, 64, 99, 100, 127, 255, 256, 257, 399, 400, 401, 1 << 30, Integer.MAX_VALUE};

    private MachineTests() {
    }

    public static void main(String[] args) throws IllegalAccessException {
        List<Method> face = new ArrayList<>();
        for (Method m : RemandTree.class.getDeclaredMethods()) {
            if ((m.getModifiers() & 1) != 0) {
                face.add(m);
            }
        }
        face.sort(Comparator.comparing(Method::getName));
        for (long seed = 0; seed < 1500; seed++) {
            run(face, new Random(seed));
        }
        Check.close("MachineTests");
    }

    private static void run(List<Method> face, Random random) throws IllegalAccessException {
        RemandTree x = new RemandTree();
        if (random.nextInt(5) > 0) {
            StringBuilder text = new StringBuilder();
            int issues = 1 + random.nextInt(8);
            for (int k = 0; k < issues; k++) {
                text.append("issue ").append((char) ('a' + k)).append(random.nextBoolean() ? " anew" : " choice");
                text.append(k > 0 && random.nextInt(4) == 0 ? " rests " + (char) ('a' + random.nextInt(k)) : "").append(";");
            }
            text.append("claim a");
            for (int k = 1; k < issues; k++) {
                text.append(random.nextBoolean() ? " and " : " or ").append((char) ('a' + k));
            }
            Check.tape(x, text.append(";").toString());
            x.read();
        }
        boolean odd = random.nextBoolean();
        for (int k = 0; k < 400; k++) {
            Method m = face.get(random.nextInt(face.size()));
            if (m.getName().equals("read") && random.nextInt(10) > 0) {
                continue;
            }
            call(x, m, random, odd);
        }
    }

    private static void call(RemandTree x, Method m, Random random, boolean odd) throws IllegalAccessException {
        Object[] args = new Object[m.getParameterCount()];
        for (int k = 0; k < args.length; k++) {
            boolean small = !odd || random.nextInt(4) > 0;
            args[k] = m.getParameterTypes()[k] == boolean.class ? (Object) random.nextBoolean()
                : (Object) (small ? random.nextInt(4) : ODD[random.nextInt(ODD.length)]);
        }
        Check.asked++;
        try {
            m.invoke(x, args);
        } catch (InvocationTargetException e) {
            Throwable cause = e.getCause();
            boolean told = Arrays.asList(m.getExceptionTypes()).contains(cause.getClass());
            boolean own = cause.getStackTrace().length == 0
                || cause.getStackTrace()[0].getClassName().startsWith("RemandTree");
            if (!told || !own) {
                Check.wrong++;
                System.out.println("WRONG: " + m.getName() + Arrays.toString(args) + " threw " + cause);
            }
        }
    }
}
