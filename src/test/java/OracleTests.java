import java.util.ArrayList;
import java.util.List;
import java.util.Random;

/** Runs with seeds of their own, RemandTree held against Model call by call. */
public final class OracleTests {
    private final Random random;
    private final Both both;
    private int issues;

    private OracleTests(long seed) {
        random = new Random(seed);
        both = new Both();
    }

    public static void main(String[] args) {
        int runs = args.length > 0 ? Integer.parseInt(args[0]) : 1200;
        long first = args.length > 1 ? Long.parseLong(args[1]) : 1;
        for (long seed = first; seed < first + runs; seed++) {
            new OracleTests(seed).treeRun();
            new OracleTests(seed).wideRun();
            new OracleTests(seed).textRun();
        }
        System.out.println("OracleTests: " + Both.calls + " calls, " + Both.wrong + " wrong");
        if (args.length > 2) {
            Both.SEEN.forEach((name, seen) -> System.out.println(name + " answered " + seen[0] + " threw " + seen[1]));
            System.out.println(java.util.Arrays.toString(hows));
        }
        if (Both.wrong > 0) {
            System.exit(1);
        }
    }

    static final int[] hows = new int[8];

    private int below(int n) {
        return random.nextInt(n);
    }

    // ---- texts

    private static final String[] NAMES = {"a", "b", "c", "dd", "abcdef", "is", "zz", "order", "no", "claims"};
    private static final String[] STANDARDS = {"anew", "choice", "clear"};

    private String blank() {
        return below(12) == 0 ? new String[] {"  ", "\t", "\n", " \n "}[below(4)] : " ";
    }

    private String maybeBlank() {
        return below(6) == 0 ? blank() : "";
    }

    private String text(int n, int names) {
        StringBuilder out = new StringBuilder();
        List<String> told = new ArrayList<>();
        int claimAt = below(4) == 0 ? below(n + 1) : n;
        boolean claimed = false;
        int shift = below(NAMES.length);
        for (int k = 0; k <= n; k++) {
            if (below(3) == 0) {
                out.append("bars").append(blank()).append(below(2) == 0 ? "first" : "second");
                for (int j = 0; j < 3; j++) {
                    out.append(blank()).append(below(3) == 0 ? below(10) : below(4));
                }
                out.append(maybeBlank()).append(";");
            }
            if (!claimed && !told.isEmpty() && k >= claimAt) {
                out.append("claim").append(blank()).append(either(told, 0, new int[] {names})).append(";");
                claimed = true;
            }
            if (k < n) {
                String name = NAMES[(k + shift) % NAMES.length];
                out.append("issue").append(blank()).append(name).append(blank());
                out.append(STANDARDS[below(2) == 0 ? 0 : below(3)]);
                if (!told.isEmpty() && below(3) == 0) {
                    List<String> left = new ArrayList<>(told);
                    out.append(blank()).append("rests").append(blank());
                    int many = 1 + below(Math.min(3, left.size()));
                    for (int j = 0; j < many; j++) {
                        out.append(j > 0 ? "," + maybeBlank() : "").append(left.remove(below(left.size())));
                    }
                }
                out.append(maybeBlank()).append(";").append(maybeBlank());
                told.add(name);
            }
        }
        return out.toString();
    }

    private String either(List<String> told, int depth, int[] left) {
        StringBuilder out = new StringBuilder(all(told, depth, left));
        while (left[0] > 0 && below(3) == 0) {
            out.append(blank()).append("or").append(blank()).append(all(told, depth, left));
        }
        return out.toString();
    }

    private String all(List<String> told, int depth, int[] left) {
        StringBuilder out = new StringBuilder(part(told, depth, left));
        while (left[0] > 0 && below(3) == 0) {
            out.append(blank()).append("and").append(blank()).append(part(told, depth, left));
        }
        return out.toString();
    }

    private String part(List<String> told, int depth, int[] left) {
        left[0]--;
        int what = depth >= 6 || left[0] <= 0 ? 0 : below(6);
        if (what == 1) {
            return "not" + blank() + part(told, depth + 1, left);
        }
        if (what == 2 || what == 3) {
            return "(" + maybeBlank() + either(told, depth + 1, left) + maybeBlank() + ")";
        }
        if (what == 4) {
            StringBuilder out = new StringBuilder().append(below(5)).append(maybeBlank()).append("of(");
            out.append(either(told, depth + 1, left));
            while (left[0] > 0 && below(3) > 0) {
                out.append(",").append(maybeBlank()).append(either(told, depth + 1, left));
            }
            return out.append(")").toString();
        }
        return told.get(below(told.size()));
    }

    /** Texts right and wrong: bytes put in, taken out, changed, words doubled, ends cut. */
    private void textRun() {
        for (int k = 0; k < 6; k++) {
            String text = text(1 + below(8), 1 + below(14));
            for (int hits = below(4); hits > 0 && !text.isEmpty(); hits--) {
                text = hit(text);
            }
            if (text.length() <= 400) {
                both.text(text);
                askAbout();
            }
        }
    }

    private String hit(String text) {
        int at = below(text.length());
        int to = Math.min(text.length(), at + 1 + below(12));
        switch (below(6)) {
            case 0: return text.substring(0, at) + text.substring(at + 1);
            case 1: return text.substring(0, at);
            case 2: return text.substring(0, at) + "();,10 not of issue claim \0A\u00e9\t".charAt(below(28)) + text.substring(at);
            case 3: return text.substring(0, at) + text.substring(at, to) + text.substring(at);
            case 4: return text.substring(0, at) + text.substring(to);
            default: return text + new String[] {";", "issue q anew;", " ", "bars first 1 2 3;", "claim a;"}[below(5)];
        }
    }

    private void askAbout() {
        for (int what = -1; what <= 11; what++) {
            both.call("count", what);
        }
        for (int i = -1; i <= 8; i++) {
            for (int k = -1; k <= 6; k++) {
                both.call("issue", i, k);
                both.call("name", i, k);
            }
        }
        for (int level = 0; level <= 3; level++) {
            for (int standard = -1; standard <= 3; standard++) {
                both.call("bar", level, standard);
            }
        }
        both.call("ways", 0);
        both.call("ways", 1);
        both.call("pivotal");
    }

    // ---- trees

    private boolean begin(int n, int names) {
        String text = text(n, names);
        if (text.length() > 400) {
            return false;
        }
        both.text(text);
        issues = (Integer) both.call("count", 0);
        return true;
    }

    /** Few issues: all is asked, with all pages, behind each step. */
    private void treeRun() {
        if (!begin(1 + below(5), 1 + below(8))) {
            return;
        }
        int steps = 10 + below(40);
        for (int k = 0; k < steps; k++) {
            step();
            if (below(3) == 0) {
                askNow(true);
            }
            askNodes(3);
        }
        askNow(true);
    }

    /** Many issues: the dear calls are asked now and then. */
    private void wideRun() {
        if (!begin(6 + below(3), 4 + below(8))) {
            return;
        }
        for (int k = 0; k < 60; k++) {
            step();
            if (below(10) == 0) {
                askNow(false);
            }
        }
        for (int k = 0; k < 30; k++) {
            step();
        }
        askNow(false);
        askNodes(60);
        if (below(20) == 0 && both.model.levelFrom(both.model.nodes.get(both.model.now)) != 0) {
            for (int what = 0; what <= 2; what++) {
                both.call("chain", 4 + below(8), what);
            }
        }
    }

    private int set() {
        int all = (1 << issues) - 1;
        int way = below(20);
        return way == 0 ? random.nextInt() : way < 8 ? all : way < 10 ? 0 : random.nextInt() & all;
    }

    private int flaw() {
        return below(40) == 0 ? 10 - 11 * below(2) : below(10);
    }

    /** One call that changes something, mostly one that can be. */
    private void step() {
        Model m = both.model;
        Model.State here = m.nodes.get(m.now);
        int way = below(20);
        if (way == 0) {
            both.call("go", below(m.nodes.size() + 2) - 1);
        } else if (way == 1) {
            both.call("tell", below(4), below(4), below(12) - 1);
        } else if (way == 2) {
            both.call("leak", below(issues + 2) - 1);
        } else if (way == 3) {
            both.call("keep", below(issues + 2) - 1, below(3));
        } else if (here.kind == 0 && (Model.opened(here) & here.mandate) != 0) {
            int issue = below(30) == 0 ? below(issues + 1) : mayBeRuled(here);
            int side = below(40) == 0 ? 2 : below(2);
            both.call("rule", issue, side, flaw());
            if (below(5) > 0) {
                both.call("keep", issue, 1 - side);
            }
        } else if (m.levelFrom(here) != 0) {
            leakSome();
            int zero = set();
            int one = set();
            Object answer = both.call("appeal", zero, one);
            if (answer instanceof Integer) {
                Model.State made = m.nodes.get((Integer) answer);
                hows[made.how + 4 * (made.kind - 1)]++;
            }
        } else if (here.how == 3) {
            both.call("round");
        } else {
            both.call("go", goodNode(m));
        }
    }

    /** One from which something can come, if there is one. */
    private int goodNode(Model m) {
        int found = below(m.nodes.size());
        for (int tries = 0; tries < 5 && m.nodes.get(found).kind == 2 && m.nodes.get(found).how != 3; tries++) {
            found = below(m.nodes.size());
        }
        return found;
    }

    private int mayBeRuled(Model.State here) {
        for (int tries = 0; tries < 50; tries++) {
            int issue = below(issues);
            if (here.side[issue] == Model.NONE && (both.model.text.rests.get(issue) & Model.opened(here)) == 0) {
                return issue;
            }
        }
        return 0;
    }

    private void leakSome() {
        for (int i = 0; i < issues; i++) {
            if (below(4) == 0) {
                both.call("leak", i);
            }
        }
    }

    private void askNow(boolean allOfIt) {
        for (int what = -1; what <= 5; what++) {
            int zero = set();
            int one = set();
            both.call("preview", zero, one, what);
            both.call("fates", what);
        }
        int pages = below(10) == 0 ? 100 - 101 * below(2) : below(8);
        both.call("best", pages, true);
        both.call("best", pages, false);
        both.call("swing", true);
        both.call("swing", false);
        both.call("harmless");
        both.call("pivotal");
        for (int side = -1; side <= 2; side++) {
            both.call("ways", side);
            both.call("due", side, true);
            both.call("due", side, false);
            for (int i = -1; i <= issues; i++) {
                both.call("why", i, side);
            }
        }
        both.call("pages", set());
        if (allOfIt) {
            int others = below(10) == 0 ? 100 : below(8);
            for (int what = -1; what <= 3; what++) {
                both.call("secure", pages, others, what);
                both.call("chain", pages, what);
            }
        }
    }

    private int anyNode() {
        return below(both.model.nodes.size() + (below(20) == 0 ? 1 : 0)) - (below(30) == 0 ? 1 : 0);
    }

    private void askNodes(int times) {
        for (int k = 0; k < times; k++) {
            int node = anyNode();
            int other = anyNode();
            for (int what = -1; what <= 15; what++) {
                both.call("node", node, what);
            }
            int issue = below(issues + 1);
            for (int what = -1; what <= 4; what++) {
                both.call("decided", node, issue, what);
                both.call("times", node, issue, what);
                both.call("leaf", what * 2);
                both.call("path", node, what);
                both.call("child", node, what);
                both.call("tally", node, what - 1, below(5) - 1);
            }
            both.call("unlike", node, other);
            both.call("common", node, other);
            both.call("widened", node);
            both.call("path", node, below(45));
            askWritten(below(2) == 0 ? both.call("tree") : both.call("write", node));
        }
    }

    private void askWritten(Object length) {
        int bytes = length instanceof Integer ? (Integer) length : 0;
        for (int k = -1; k <= bytes; k++) {
            both.call("octet", k);
        }
        both.call("count", 10);
    }
}
