import java.util.NoSuchElementException;

/** Promises 25 to 41: what there is. */
public final class TreeTests {
    private static final Class<IndexOutOfBoundsException> INDEX = IndexOutOfBoundsException.class;
    private static final Class<IllegalArgumentException> ARGUMENT = IllegalArgumentException.class;
    private static final Class<NoSuchElementException> SUCH = NoSuchElementException.class;

    private TreeTests() {
    }

    public static void main(String[] args) {
        node();
        decided();
        times();
        harmless();
        pivotal();
        ways();
        write();
        tally();
        unlike();
        widened();
        leaf();
        tree();
        longTree();
        path();
        common();
        child();
        count();
        Check.close("TreeTests");
    }

    /**
     * 0 round, 1 remanded (a open), 2 its round, 3 reversed behind 2, 4 affirmed at level 2 behind 3,
     * 5 affirmed behind 0, 6 affirmed otherwise behind 0, 7 another round behind 1. Now is 7.
     */
    private static RemandTree grown() {
        RemandTree x = Check.of("issue a choice;issue b anew;issue cc anew;claim (a or b) and cc;");
        ruleAndKeep(x, 0, 1, 5);
        ruleAndKeep(x, 1, 1, 5);
        ruleAndKeep(x, 2, 0, 5);
        x.appeal(1, 0);
        x.round();
        ruleAndKeep(x, 0, 0, 1);
        x.appeal(0, 4);
        x.appeal(0, 0);
        x.go(0);
        x.appeal(0, 0);
        x.go(0);
        x.appeal(2, 4);
        x.go(1);
        x.round();
        return x;
    }

    private static void ruleAndKeep(RemandTree x, int issue, int side, int flaw) {
        x.rule(issue, side, flaw);
        x.keep(issue, 1 - side);
    }

    private static void row(RemandTree x, int node, int... want) {
        for (int k = 0; k < want.length; k++) {
            Check.due("25 node(" + node + ", " + k + ")", x.node(node, k), want[k]);
        }
    }

    private static void node() {
        RemandTree x = grown();
        row(x, 0, 0, -1, -1, 7, 0, 0, 0, 1, -1, 0, 0, 0, 3, 4, 1);
        row(x, 1, 1, 0, 3, 1, 1, 2, 0, -1, 0, 0, 1, 0, 2, 4, 1);
        row(x, 2, 0, 1, -1, 1, 0, 2, 0, 0, -1, 0, 0, 0, 2, 5, 2);
        row(x, 3, 1, 2, 2, 0, 0, 7, 0, 1, 1, 4, 0, 4, 2, 1, 2);
        row(x, 4, 2, 3, 0, 0, 0, 7, 0, 1, 0, 0, 0, 0, 2, 1, 2);
        row(x, 5, 1, 0, 0, 0, 0, 3, 0, 1, 0, 0, 0, 0, 3, 4, 1);
        row(x, 6, 1, 0, 1, 0, 0, 7, 0, 1, 0, 0, 2, 4, 3, 4, 1);
        row(x, 7, 0, 1, -1, 1, 1, 2, 0, -1, -1, 0, 0, 0, 2, 4, 2);
        Check.thrown("25 what", SUCH, () -> x.node(0, 15));
        Check.thrown("25 what", SUCH, () -> x.node(0, -1));
        Check.thrown("25 node", INDEX, () -> x.node(8, 15));
        Check.thrown("25 node", INDEX, () -> x.node(-1, 0));
    }

    private static void decided() {
        RemandTree x = grown();
        int[][] want = {{0, 0, 1, 5, 0, 0}, {1, 0, -1, -1, -1, -1}, {2, 0, 0, 1, 0, 2}, {2, 1, 1, 5, 0, 0},
            {3, 0, 0, 1, 0, 2}, {3, 2, 1, 4, 1, 3}, {4, 2, 1, 4, 1, 3}, {6, 2, 0, 5, 0, 0}, {7, 0, -1, -1, -1, -1}};
        for (int[] row : want) {
            for (int k = 0; k < 4; k++) {
                Check.due("26 decided(" + row[0] + ", " + row[1] + ", " + k + ")",
                    x.decided(row[0], row[1], k), row[k + 2]);
            }
        }
        Check.thrown("26 what", SUCH, () -> x.decided(0, 0, 4));
        Check.thrown("26 what of an open one", SUCH, () -> x.decided(7, 0, -1));
        Check.thrown("26 issue", INDEX, () -> x.decided(0, 3, 4));
        Check.thrown("26 issue", INDEX, () -> x.decided(0, -1, 0));
        Check.thrown("26 node", INDEX, () -> x.decided(8, 0, 4));
        Check.thrown("26 node", INDEX, () -> x.decided(-1, 0, 0));
    }

    private static void times() {
        RemandTree x = grown();
        int[][] want = {{0, 0, 0, 1}, {1, 0, 0, 1}, {2, 0, 0, 2}, {4, 0, 0, 2}, {7, 0, 0, 1}, {4, 2, 0, 1}, {4, 2, 1, 1},
            {4, 2, 2, 0}, {2, 2, 1, 0}, {6, 2, 1, 0}, {5, 1, 0, 1}};
        for (int[] row : want) {
            Check.due("27 times", x.times(row[0], row[1], row[2]), row[3]);
        }
        Check.due("27 open", Check.of("issue a anew;claim a;").times(0, 0, 0), 0);
        Check.thrown("27 level", SUCH, () -> x.times(0, 0, 3));
        Check.thrown("27 level", SUCH, () -> x.times(0, 0, -1));
        Check.thrown("27 issue", INDEX, () -> x.times(0, 3, 3));
        Check.thrown("27 node", INDEX, () -> x.times(8, 0, 3));
        Check.thrown("27 node", INDEX, () -> x.times(-1, 0, 0));
    }

    private static void harmless() {
        RemandTree x = Check.of("issue a anew;issue b anew;issue c anew;claim a or b and c;");
        Check.due("28 not sure", x.harmless(), 0);
        x.rule(0, 0, 0);
        Check.due("28 by a alone", x.harmless(), 0);
        x.rule(1, 0, 0);
        Check.due("28 c is open", x.harmless(), 2);
        x.rule(2, 0, 0);
        Check.due("28 all", x.harmless(), 7);
        RemandTree y = Check.of("issue a anew;issue b anew;claim a and b;");
        y.rule(0, 0, 0);
        Check.due("28 not sure, though a is decided", y.harmless(), 0);
        y.rule(1, 0, 0);
        Check.due("28 none", y.harmless(), 0);
        Check.due("28 no issues", new RemandTree().harmless(), 0);
    }

    private static void pivotal() {
        RemandTree x = Check.of("issue a anew;issue b anew;issue c anew;claim a or b and c;");
        Check.due("29 all", x.pivotal(), 7);
        x.rule(1, 1, 0);
        Check.due("29 a", x.pivotal(), 1);
        x.rule(0, 1, 0);
        Check.due("29 none", x.pivotal(), 0);
        RemandTree y = Check.of("issue a anew;issue b anew;claim a or not a;");
        Check.due("29 neither", y.pivotal(), 0);
        Check.due("29 no issues", new RemandTree().pivotal(), 0);
    }

    private static void ways() {
        RemandTree x = Check.of("issue a anew;issue b anew;issue c anew;claim a or b and c;");
        Check.due("30 ways(0)", x.ways(0), 5);
        Check.due("30 ways(1)", x.ways(1), 3);
        x.rule(0, 1, 0);
        Check.due("30 ways(0)", x.ways(0), 1);
        Check.due("30 ways(1)", x.ways(1), 3);
        x.rule(1, 0, 0);
        x.rule(2, 0, 0);
        Check.due("30 nothing open", x.ways(0), 1);
        Check.due("30 nothing open", x.ways(1), 0);
        Check.thrown("30 side", ARGUMENT, () -> x.ways(2));
        Check.thrown("30 side", ARGUMENT, () -> x.ways(-1));
    }

    private static void write() {
        RemandTree x = grown();
        String[] want = {"round a=1 b=1 cc=0", "first remanded a? b=1! cc=0", "round a=0 b=1! cc=0",
            "first reversed a=0! b=1! cc=1!", "second affirmed a=0! b=1! cc=1!", "first affirmed a=1! b=1! cc=0",
            "first affirmed otherwise a=1! b=1! cc=0!", "round a? b=1! cc=0"};
        for (int k = 0; k < want.length; k++) {
            Check.due("31 length", x.write(k), want[k].length());
            Check.due("31 written", Check.written(x), want[k]);
            Check.due("41 bytes", x.count(10), want[k].length());
        }
        Check.due("32 below", x.octet(-1), -1);
        Check.due("32 first", x.octet(0), 'r');
        Check.due("32 last", x.octet(want[7].length() - 1), '0');
        Check.due("32 behind", x.octet(want[7].length()), -1);
        Check.due("32 far behind", x.octet(Integer.MAX_VALUE), -1);
        Check.due("32 far below", x.octet(Integer.MIN_VALUE), -1);
        Check.thrown("31 node", INDEX, () -> x.write(8));
        Check.thrown("31 node", INDEX, () -> x.write(-1));
        Check.due("31 nothing changed", Check.written(x), want[7]);
        Check.due("32 without", new RemandTree().octet(0), -1);
        RemandTree y = Check.of("issue aaaaaa clear;issue aaaaab clear;issue aaaaac clear;issue aaaaad clear;"
            + "issue aaaaae clear;issue aaaaaf clear;issue aaaaag clear;issue aaaaah clear;claim aaaaaa;");
        for (int k = 0; k < 8; k++) {
            y.rule(k, 1, 0);
        }
        y.appeal(0, 0);
        y.appeal(0, 0);
        Check.due("31 long", y.write(2), 15 + 8 * 10);
        Check.due("31 last", y.octet(94), '!');
    }

    private static void tally() {
        RemandTree x = grown();
        int[][] want = {{0, 0, -1, 1}, {0, 1, -1, 2}, {0, -1, -1, 0}, {0, 1, 0, 1}, {0, 1, 1, 1}, {0, 1, 2, 0},
            {0, 0, 0, 1}, {7, -1, -1, 1}, {7, -1, 1, 1}, {7, -1, 0, 0}, {7, 1, 1, 0}, {3, 0, 1, 1}, {3, 1, 0, 2}};
        for (int[] row : want) {
            Check.due("33 tally", x.tally(row[0], row[1], row[2]), row[3]);
        }
        Check.thrown("33 side", ARGUMENT, () -> x.tally(0, 2, 0));
        Check.thrown("33 side", ARGUMENT, () -> x.tally(0, -2, 0));
        Check.thrown("33 standard", ARGUMENT, () -> x.tally(0, 0, 3));
        Check.thrown("33 standard", ARGUMENT, () -> x.tally(0, -1, -2));
        Check.thrown("33 node", INDEX, () -> x.tally(8, 2, 3));
        Check.thrown("33 node", INDEX, () -> x.tally(-1, 0, 0));
    }

    private static void unlike() {
        RemandTree x = grown();
        int[][] want = {{0, 0, 0}, {0, 1, 1}, {1, 0, 1}, {0, 2, 1}, {0, 3, 5}, {1, 7, 0}, {2, 3, 4}, {3, 4, 0}, {5, 6, 0}};
        for (int[] row : want) {
            Check.due("34 unlike", x.unlike(row[0], row[1]), row[2]);
        }
        Check.thrown("34 node", INDEX, () -> x.unlike(8, 0));
        Check.thrown("34 other", INDEX, () -> x.unlike(0, 8));
        Check.thrown("34 node", INDEX, () -> x.unlike(-1, 0));
    }

    private static void widened() {
        RemandTree x = Check.of("issue a choice;issue b choice;issue c choice rests b;claim a or b;");
        ruleAndKeep(x, 0, 1, 5);
        ruleAndKeep(x, 1, 1, 5);
        ruleAndKeep(x, 2, 0, 5);
        x.appeal(1, 0);
        x.round();
        Check.due("35 narrower", x.widened(2), 0);
        x.rule(0, 1, 0);
        x.leak(1);
        x.appeal(2, 0);
        Check.due("35 an appeal", x.widened(3), 0);
        x.round();
        Check.due("35 by b and what rests on it", x.widened(4), 6);
        Check.due("35 node 0", x.widened(0), 0);
        Check.thrown("35 node", INDEX, () -> x.widened(5));
        Check.thrown("35 node", INDEX, () -> x.widened(-1));
    }

    private static void leaf() {
        RemandTree x = grown();
        int[] want = {4, 5, 6, 7, -1};
        for (int k = 0; k < want.length; k++) {
            Check.due("36 leaf", x.leaf(k), want[k]);
        }
        Check.due("36 below", x.leaf(-1), -1);
        Check.due("36 far", x.leaf(Integer.MAX_VALUE), -1);
        Check.due("36 far below", x.leaf(Integer.MIN_VALUE), -1);
        Check.due("36 node 0", new RemandTree().leaf(0), 0);
        Check.due("36 none", new RemandTree().leaf(1), -1);
    }

    private static void tree() {
        RemandTree x = grown();
        String want = "0r(1m(2r(3v(4a)),7r),5a,6o)";
        Check.due("37 length", x.tree(), want.length());
        Check.due("37 written", Check.written(x), want);
        Check.due("41 bytes", x.count(10), want.length());
        x.write(0);
        Check.due("32 the latest", Check.written(x), "round a=1 b=1 cc=0");
        RemandTree y = new RemandTree();
        y.tree();
        Check.due("37 node 0 alone", Check.written(y), "0r");
    }

    /** As deep as it gets: 40 nodes, each behind the one before. */
    private static void longTree() {
        RemandTree x = Check.of("issue a choice;claim a;");
        StringBuilder want = new StringBuilder();
        for (int k = 0; k < 40; k += 2) {
            ruleAndKeep(x, 0, 1, 5);
            want.append(k == 0 ? "" : "(").append(k).append("r");
            want.append("(").append(k + 1).append("m");
            x.appeal(1, 0);
            if (k < 38) {
                x.round();
            }
        }
        for (int k = 1; k < 40; k++) {
            want.append(")");
        }
        Check.due("37 length", x.tree(), want.length());
        Check.due("37 written", Check.written(x), want.toString());
        Check.due("38 path", x.path(39, 39), 39);
        Check.due("38 behind", x.path(39, 40), -1);
        Check.due("39 common", x.common(39, 17), 17);
        Check.due("25 rounds", x.node(39, 14), 20);
        Check.due("27 times", x.times(39, 0, 0), 20);
        Check.due("36 leaf", x.leaf(0), 39);
    }

    private static void path() {
        RemandTree x = grown();
        int[] want = {0, 1, 2, 3, 4, -1};
        for (int k = 0; k < want.length; k++) {
            Check.due("38 path", x.path(4, k), want[k]);
        }
        Check.due("38 to 7", x.path(7, 2), 7);
        Check.due("38 to 0", x.path(0, 0), 0);
        Check.due("38 behind", x.path(0, 1), -1);
        Check.due("38 below", x.path(4, -1), -1);
        Check.due("38 far below", x.path(4, Integer.MIN_VALUE), -1);
        Check.due("38 far behind", x.path(4, Integer.MAX_VALUE), -1);
        Check.thrown("38 node", INDEX, () -> x.path(8, 0));
        Check.thrown("38 node", INDEX, () -> x.path(-1, 0));
    }

    private static void common() {
        RemandTree x = grown();
        int[][] want = {{4, 7, 1}, {7, 4, 1}, {4, 4, 4}, {4, 2, 2}, {2, 4, 2}, {5, 6, 0}, {0, 4, 0}, {6, 3, 0}};
        for (int[] row : want) {
            Check.due("39 common", x.common(row[0], row[1]), row[2]);
        }
        Check.thrown("39 node", INDEX, () -> x.common(8, 0));
        Check.thrown("39 other", INDEX, () -> x.common(0, 8));
        Check.thrown("39 other", INDEX, () -> x.common(0, -1));
    }

    private static void child() {
        RemandTree x = grown();
        int[][] want = {{0, 0, 1}, {0, 1, 5}, {0, 2, 6}, {0, 3, -1}, {1, 0, 2}, {1, 1, 7}, {1, 2, -1}, {4, 0, -1},
            {0, -1, -1}, {0, Integer.MAX_VALUE, -1}, {0, Integer.MIN_VALUE, -1}};
        for (int[] row : want) {
            Check.due("40 child", x.child(row[0], row[1]), row[2]);
        }
        Check.thrown("40 node", INDEX, () -> x.child(8, 0));
        Check.thrown("40 node", INDEX, () -> x.child(-1, 0));
    }

    private static void count() {
        RemandTree x = grown();
        int[] want = {3, 8, 7, 3, 5, 2, 1, 1, 1, 3, 0};
        for (int k = 0; k < want.length; k++) {
            Check.due("41 count(" + k + ")", x.count(k), want[k]);
        }
        Check.due("41 another what", x.count(11), -1);
        Check.due("41 another what", x.count(-1), -1);
    }
}
