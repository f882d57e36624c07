import java.nio.charset.StandardCharsets;

/** Compares answers with those that are due, and counts the wrong ones. */
final class Check {
    /** A call of the face. */
    interface Call {
        long answer();
    }

    static int wrong = 0;
    static int asked = 0;

    private Check() {
    }

    static void due(String what, long got, long want) {
        asked++;
        if (got != want) {
            wrong++;
            System.out.println("WRONG: " + what + " answered " + got + ", due is " + want);
        }
    }

    static void due(String what, boolean got, boolean want) {
        due(what, got ? 1 : 0, want ? 1 : 0);
    }

    static void due(String what, String got, String want) {
        asked++;
        if (!got.equals(want)) {
            wrong++;
            System.out.println("WRONG: " + what + " answered '" + got + "', due is '" + want + "'");
        }
    }

    /** The very class is due, not one below it: those are what the machine throws. */
    static void thrown(String what, Class<? extends RuntimeException> want, Call call) {
        asked++;
        String got;
        try {
            got = "answered " + call.answer();
        } catch (RuntimeException e) {
            if (e.getClass() == want) {
                return;
            }
            got = "threw " + e;
        }
        wrong++;
        System.out.println("WRONG: " + what + " " + got + ", due is " + want.getSimpleName());
    }

    /** A text put on the tape by feed and end. */
    static void tape(RemandTree x, String text) {
        byte[] bytes = text.getBytes(StandardCharsets.ISO_8859_1);
        int[] numbers = new int[(bytes.length + 19) / 20 * 5];
        for (int k = 0; k < bytes.length; k++) {
            numbers[k / 4] |= (bytes[k] & 255) << (24 - k % 4 * 8);
        }
        x.end(0);
        for (int k = 0; k < numbers.length; k += 5) {
            x.feed(numbers[k], numbers[k + 1], numbers[k + 2], numbers[k + 3], numbers[k + 4]);
        }
        x.end(bytes.length);
    }

    static RemandTree of(String text) {
        RemandTree x = new RemandTree();
        tape(x, text);
        x.read();
        return x;
    }

    /** THE FAULT of a text; whether read() throws is looked at, too. */
    static int faultOf(String text) {
        RemandTree x = new RemandTree();
        tape(x, text);
        boolean threw = false;
        try {
            x.read();
        } catch (IllegalArgumentException e) {
            threw = true;
        }
        due("read() throws just with a fault: " + text, threw, x.fault() != RemandTree.NONE);
        return x.fault();
    }

    /** What was written latest. */
    static String written(RemandTree x) {
        StringBuilder out = new StringBuilder();
        int next = x.octet(0);
        for (int k = 1; k < 1000 && next != RemandTree.NONE; k++) {
            out.append((char) next);
            next = x.octet(k);
        }
        return out.toString();
    }

    static void close(String name) {
        System.out.println(name + ": " + asked + " answers, " + wrong + " wrong");
        if (wrong > 0) {
            System.exit(1);
        }
    }
}
