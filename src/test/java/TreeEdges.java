/** Boundary cases of promises 25 to 27 and 31 to 41: what there is; and of how many calls there may be. */
final class TreeEdges {
    private TreeEdges() {
    }

    static void run() {
        node();
        nodeWhats();
        nodeRefused();
        decided();
        decidedRefused();
        times();
        timesRefused();
        write();
        writeLongest();
        octet();
        tally();
        tallyRefused();
        unlike();
        widened();
        leaf();
        tree();
        treeLongest();
        path();
        common();
        child();
        count();
        lastCall();
    }

    private static void node() {
        Edge.says(25, "Of a NODE what 0 0 ROUND, 1, 2 LEVEL of an APPEAL, 1 the NODE ahead (NONE), 2 how it was (0 to 3; NONE of a ROUND), 3 its "
            + "MANDATE (of an APPEAL: what is OPEN behind it), 4 OPEN, 5 SETTLED, 6 LEAKS, 7 who wins, if it is SURE (NONE), 8 "
            + "the APPELLANT (NONE), 9 TURNED in it (0 of a ROUND, of what is AFFIRMED), 10, 11 what SIDE 0, 1 BRIEFED (0 of a "
            + "ROUND), 12, 13 what SIDE 0, 1 KEEPS, 14 how many ROUNDS there are to it, itself too.");
        RemandTree x = Scenes.grown();
        int[][] want = {
            {0, -1, -1, 7, 0, 0, 0, 1, -1, 0, 0, 0, 3, 4, 1},
            {1, 0, 3, 1, 1, 2, 0, -1, 0, 0, 1, 0, 2, 4, 1},
            {0, 1, -1, 1, 0, 2, 0, 0, -1, 0, 0, 0, 2, 5, 2},
            {1, 2, 2, 0, 0, 7, 0, 1, 1, 4, 0, 4, 2, 1, 2},
            {2, 3, 0, 0, 0, 7, 0, 1, 0, 0, 0, 0, 2, 1, 2},
            {1, 0, 0, 0, 0, 3, 0, 1, 0, 0, 0, 0, 3, 4, 1},
            {1, 0, 1, 0, 0, 7, 0, 1, 0, 0, 1, 4, 3, 4, 1},
            {0, 1, -1, 1, 1, 2, 0, -1, -1, 0, 0, 0, 2, 4, 2}};
        for (int node = 0; node < want.length; node++) {
            Edge.row(x, want[node], "node", node, Edge.IT);
        }
    }

    private static void nodeWhats() {
        Edge.says(25, "3 its MANDATE (of an APPEAL: what is OPEN behind it), 4 OPEN");
        RemandTree x = Edge.of("issue a anew;issue b anew rests a;claim a;");
        Edge.kept(x, 0, 1, 3);
        Edge.is(x, 3, "node", 0, 3);
        Edge.is(x, 2, "node", 0, 4);
        Edge.rule(x, 1, 0, 0);
        Edge.is(x, 3, "node", 0, 3);
        Edge.is(x, 0, "node", 0, 4);
        Edge.is(x, 1, "appeal", 1, 0);
        Edge.is(x, 2, "node", 1, 3);
        Edge.is(x, 2, "node", 1, 4);
        Edge.is(x, 0, "node", 1, 7);
        Edge.says(25, "9 TURNED in it (0 of a ROUND, of what is AFFIRMED)");
        Edge.is(x, 1, "node", 1, 9);
        Edge.is(x, 2, "appeal", 0, 0);
        Edge.is(x, 0, "node", 2, 9);
        Edge.is(x, 0, "node", 0, 9);
        Edge.says(25, "14 how many ROUNDS there are to it, itself too.");
        RemandTree deep = Scenes.deep();
        for (int node = 0; node < 40; node++) {
            Edge.is(deep, node / 2 + 1, "node", node, 14);
        }
        Edge.says(25, "6 LEAKS");
        RemandTree leaks = Scenes.round();
        Edge.is(leaks, true, "leak", 1);
        Edge.is(leaks, 2, "node", 2, 6);
        Edge.is(leaks, 2, "node", 2, 5);
    }

    private static void nodeRefused() {
        Edge.says(25, "NoSuchElementException: another what.");
        Edge.refusedFor(Scenes::second, Edge.SUCH, Edge.outside(15), "node", 4, Edge.IT);
        Edge.refusedFor(Scenes::bare, Edge.SUCH, Edge.outside(15), "node", 0, Edge.IT);
        Edge.refusedFor(Scenes::second, Edge.INDEX, Edge.outside(5), "node", Edge.IT, 0);
        Edge.refusedFor(Scenes::second, Edge.INDEX, Edge.outside(5), "node", Edge.IT, 15);
        Edge.refusedFor(Scenes::bare, Edge.INDEX, Edge.outside(1), "node", Edge.IT, 0);
        Edge.refusedFor(Scenes::full, Edge.INDEX, Edge.outside(40), "node", Edge.IT, 0);
        Edge.is(Scenes.full(), 1, "node", 39, 0);
    }

    private static void decided() {
        Edge.says(26, "what 0 for which SIDE it is DECIDED (NONE: OPEN), 1 its FLAW (NONE), 2 the LEVEL at which it was DECIDED last (0 in a "
            + "ROUND; NONE), 3 the NODE in which that was (NONE).");
        RemandTree x = Scenes.grown();
        int[][] want = {{0, 0, 1, 5, 0, 0}, {0, 2, 0, 5, 0, 0}, {1, 0, -1, -1, -1, -1}, {1, 1, 1, 5, 0, 0}, {2, 0, 0, 1, 0, 2},
            {3, 0, 0, 1, 0, 2}, {3, 2, 1, 4, 1, 3}, {4, 2, 1, 4, 1, 3}, {5, 0, 1, 5, 0, 0}, {6, 2, 0, 5, 0, 0},
            {7, 0, -1, -1, -1, -1}};
        for (int[] row : want) {
            Edge.row(x, new int[] {row[2], row[3], row[4], row[5]}, "decided", row[0], row[1], Edge.IT);
        }
        RemandTree never = Edge.of("issue a anew;claim a;");
        Edge.row(never, new int[] {-1, -1, -1, -1}, "decided", 0, 0, Edge.IT);
        Edge.kept(never, 0, 1, 5);
        Edge.is(never, 1, "appeal", 1, 0);
        Edge.is(never, 2, "appeal", 0, 1);
        Edge.row(never, new int[] {1, 5, 0, 0}, "decided", 0, 0, Edge.IT);
        Edge.row(never, new int[] {0, 4, 1, 1}, "decided", 1, 0, Edge.IT);
        Edge.row(never, new int[] {1, 5, 2, 2}, "decided", 2, 0, Edge.IT);
    }

    private static void decidedRefused() {
        Edge.says(26, "NoSuchElementException: another what.");
        Edge.refusedFor(Scenes::second, Edge.SUCH, Edge.outside(4), "decided", 4, 2, Edge.IT);
        Edge.refusedFor(Scenes::remanded, Edge.SUCH, Edge.outside(4), "decided", 1, 0, Edge.IT);
        Edge.refusedFor(Scenes::second, Edge.INDEX, Edge.outside(5), "decided", Edge.IT, 0, 4);
        Edge.refusedFor(Scenes::second, Edge.INDEX, Edge.outside(3), "decided", 4, Edge.IT, 0);
        Edge.refused(Scenes::second, Edge.INDEX, "decided", 4, 3, 4);
        Edge.refused(Scenes::second, Edge.INDEX, "decided", 5, 3, 4);
        Edge.refused(Scenes::bare, Edge.INDEX, "decided", 0, 0, 0);
        Edge.refusedFor(Scenes::full, Edge.INDEX, Edge.outside(40), "decided", Edge.IT, 0, 0);
    }

    private static void times() {
        Edge.says(27, "How often an ISSUE was DECIDED (RULED, TURNED) at a LEVEL (0 to 2) on the way to a NODE, itself too.");
        RemandTree x = Scenes.grown();
        int[][] want = {{0, 0, 1, 0, 0}, {1, 0, 1, 0, 0}, {2, 0, 2, 0, 0}, {3, 0, 2, 0, 0}, {3, 2, 1, 1, 0}, {4, 2, 1, 1, 0},
            {2, 2, 1, 0, 0}, {5, 0, 1, 0, 0}, {6, 2, 1, 0, 0}, {7, 0, 1, 0, 0}, {7, 2, 1, 0, 0}};
        for (int[] row : want) {
            Edge.row(x, new int[] {row[2], row[3], row[4]}, "times", row[0], row[1], Edge.IT);
        }
        RemandTree twice = Edge.of("issue a anew;claim a;");
        Edge.row(twice, new int[] {0, 0, 0}, "times", 0, 0, Edge.IT);
        Edge.kept(twice, 0, 1, 5);
        Edge.is(twice, 1, "appeal", 1, 0);
        Edge.is(twice, 2, "appeal", 0, 1);
        Edge.row(twice, new int[] {1, 1, 1}, "times", 2, 0, Edge.IT);
        Edge.row(twice, new int[] {1, 1, 0}, "times", 1, 0, Edge.IT);
        RemandTree deep = Scenes.deep();
        Edge.row(deep, new int[] {20, 0, 0}, "times", 39, 0, Edge.IT);
        Edge.row(deep, new int[] {1, 0, 0}, "times", 0, 0, Edge.IT);
    }

    private static void timesRefused() {
        Edge.says(27, "NoSuchElementException: another LEVEL.");
        Edge.refusedFor(Scenes::second, Edge.SUCH, Edge.outside(3), "times", 4, 2, Edge.IT);
        Edge.refusedFor(Scenes::second, Edge.INDEX, Edge.outside(5), "times", Edge.IT, 0, 3);
        Edge.refusedFor(Scenes::second, Edge.INDEX, Edge.outside(3), "times", 4, Edge.IT, 0);
        Edge.refused(Scenes::second, Edge.INDEX, "times", 0, 3, 3);
        Edge.refused(Scenes::bare, Edge.INDEX, "times", 0, 0, 0);
        Edge.refusedFor(Scenes::full, Edge.INDEX, Edge.outside(40), "times", Edge.IT, 0, 0);
    }

    private static void write() {
        Edge.says(Edge.TERMS, "WRITTEN: a NODE: \"round\", \"first\" or \"second\"; behind an APPEAL a blank, then \"affirmed\", \"affirmed "
            + "otherwise\", \"reversed\" or \"remanded\"; then, for each ISSUE, a blank, its NAME, and ? (OPEN) or = and the SIDE "
            + "for which it is DECIDED, and ! if it is SETTLED.");
        RemandTree x = Scenes.grown();
        String[] want = {"round a=1 b=1 cc=0", "first remanded a? b=1! cc=0", "round a=0 b=1! cc=0", "first reversed a=0! b=1! cc=1!",
            "second affirmed a=0! b=1! cc=1!", "first affirmed a=1! b=1! cc=0", "first affirmed otherwise a=1! b=1! cc=0!",
            "round a? b=1! cc=0"};
        for (int node = 0; node < want.length; node++) {
            Edge.writes(x, want[node], "write", node);
        }
        Edge.says(31, "A NODE is WRITTEN: how many bytes.");
        Edge.writes(new RemandTree(), "round", "write", 0);
        Edge.writes(Edge.of("issue a anew;claim a;"), "round a?", "write", 0);
        Edge.refusedFor(Scenes::grown, Edge.INDEX, Edge.outside(8), "write", Edge.IT);
        Edge.refusedFor(Scenes::bare, Edge.INDEX, Edge.outside(1), "write", Edge.IT);
        Edge.refusedFor(Scenes::full, Edge.INDEX, Edge.outside(40), "write", Edge.IT);
    }

    private static void writeLongest() {
        Edge.says(31, "A NODE is WRITTEN: how many bytes.");
        StringBuilder text = new StringBuilder();
        StringBuilder open = new StringBuilder("round");
        StringBuilder settled = new StringBuilder("second affirmed otherwise");
        for (char c = 'a'; c <= 'h'; c++) {
            text.append("issue abcde").append(c).append(" anew;");
            open.append(" abcde").append(c).append("?");
            settled.append(" abcde").append(c).append(c == 'a' ? "=0!" : "=1!");
        }
        RemandTree x = Edge.of(text + "claim abcdea and abcdeb;bars first 9 9 9;");
        Edge.writes(x, open.toString(), "write", 0);
        for (int issue = 0; issue < 8; issue++) {
            Edge.kept(x, issue, issue == 0 ? 0 : 1, 5);
        }
        Edge.is(x, 1, "appeal", 2, 1);
        Edge.is(x, 2, "appeal", 2, 1);
        Edge.writes(x, settled.toString(), "write", 2);
        Edge.is(x, 105, "count", 10);
    }

    private static void octet() {
        Edge.says(32, "Byte k of what was WRITTEN latest; NONE without.");
        RemandTree x = Edge.of(Scenes.TEXT);
        for (int k : new int[] {Edge.MIN, -1, 0, 1, Edge.MAX}) {
            Edge.is(x, -1, "octet", k);
        }
        Edge.is(x, 15, "write", 0);
        Edge.row(x, new int[] {'r', 'o', 'u', 'n', 'd', ' ', 'a', '?', ' ', 'b', '?', ' ', 'c', 'c', '?', -1}, "octet", Edge.IT);
        Edge.is(x, 2, "tree");
        Edge.row(x, new int[] {'0', 'r', -1, -1}, "octet", Edge.IT);
        for (int k : new int[] {Edge.MIN, -1, 2, 14, 255, 256, Edge.MAX}) {
            Edge.is(x, -1, "octet", k);
        }
        Edge.is(x, Edge.INDEX, "write", 1);
        Edge.row(x, new int[] {'0', 'r', -1}, "octet", Edge.IT);
    }

    private static void tally() {
        Edge.says(33, "How many ISSUES of a STANDARD (NONE: of all) are DECIDED for a SIDE in a NODE (side NONE: are OPEN).");
        RemandTree x = Scenes.grown();
        int[][] want = {{0, 0, -1, 1}, {0, 1, -1, 2}, {0, -1, -1, 0}, {0, 0, 0, 1}, {0, 1, 0, 1}, {0, 1, 1, 1}, {0, 0, 1, 0},
            {0, 1, 2, 0}, {1, -1, -1, 1}, {1, -1, 0, 0}, {1, -1, 1, 1}, {1, -1, 2, 0}, {1, 1, 1, 0}, {3, 0, -1, 1}, {3, 1, 0, 2}};
        for (int[] row : want) {
            Edge.is(x, row[3], "tally", row[0], row[1], row[2]);
        }
        RemandTree none = new RemandTree();
        for (int side = -1; side <= 1; side++) {
            Edge.is(none, 0, "tally", 0, side, -1);
        }
        RemandTree eight = Edge.of("issue a clear;issue b clear;issue c clear;issue d clear;issue e clear;issue f clear;issue g clear;"
            + "issue h clear;claim a;");
        Edge.is(eight, 8, "tally", 0, -1, -1);
        Edge.is(eight, 8, "tally", 0, -1, 2);
        Edge.is(eight, 0, "tally", 0, -1, 1);
        for (int issue = 0; issue < 8; issue++) {
            Edge.rule(eight, issue, issue == 7 ? 0 : 1, 0);
        }
        Edge.is(eight, 7, "tally", 0, 1, 2);
        Edge.is(eight, 1, "tally", 0, 0, -1);
        Edge.is(eight, 0, "tally", 0, -1, -1);
    }

    private static void tallyRefused() {
        Edge.says(33, "IllegalArgumentException: SIDE or STANDARD is none.");
        int[] sides = {Edge.MIN, -2, 2, Edge.MAX};
        int[] standards = {Edge.MIN, -2, 3, Edge.MAX};
        Edge.refusedFor(Scenes::second, Edge.ARGUMENT, sides, "tally", 0, Edge.IT, 0);
        Edge.refusedFor(Scenes::second, Edge.ARGUMENT, sides, "tally", 4, Edge.IT, -1);
        Edge.refusedFor(Scenes::second, Edge.ARGUMENT, standards, "tally", 0, 0, Edge.IT);
        Edge.refusedFor(Scenes::second, Edge.ARGUMENT, standards, "tally", 4, -1, Edge.IT);
        Edge.refusedFor(Scenes::second, Edge.INDEX, Edge.outside(5), "tally", Edge.IT, 2, 3);
        Edge.refusedFor(Scenes::bare, Edge.INDEX, Edge.outside(1), "tally", Edge.IT, 0, 0);
        Edge.refusedFor(Scenes::full, Edge.INDEX, Edge.outside(40), "tally", Edge.IT, 0, 0);
    }

    private static void unlike() {
        Edge.says(34, "ISSUES that are DECIDED otherwise in two NODES, or OPEN in one alone (bits).");
        RemandTree x = Scenes.grown();
        int[][] want = {{0, 0, 0}, {1, 1, 0}, {0, 1, 1}, {1, 0, 1}, {1, 7, 0}, {1, 2, 1}, {0, 2, 1}, {0, 3, 5}, {3, 0, 5}, {1, 3, 5},
            {3, 4, 0}, {5, 6, 0}, {2, 3, 4}};
        for (int[] row : want) {
            Edge.is(x, row[2], "unlike", row[0], row[1]);
        }
        RemandTree flaws = Scenes.round();
        Edge.rule(flaws, 0, 1, 9);
        Edge.is(flaws, 0, "unlike", 0, 2);
        Edge.is(new RemandTree(), 0, "unlike", 0, 0);
        Edge.refusedFor(Scenes::second, Edge.INDEX, Edge.outside(5), "unlike", Edge.IT, 0);
        Edge.refusedFor(Scenes::second, Edge.INDEX, Edge.outside(5), "unlike", 4, Edge.IT);
        Edge.refusedFor(Scenes::bare, Edge.INDEX, Edge.outside(1), "unlike", 0, Edge.IT);
    }

    private static void widened() {
        Edge.says(Edge.TERMS, "WIDENED is a ROUND by ISSUES of its MANDATE that the ROUND ahead of it on the way did not have in its own.");
        RemandTree x = Edge.of("issue a choice;issue b choice;issue c choice rests b;claim a or b;");
        Edge.kept(x, 0, 1, 5);
        Edge.kept(x, 1, 1, 5);
        Edge.kept(x, 2, 0, 5);
        Edge.is(x, 1, "appeal", 1, 0);
        Edge.is(x, 2, "round");
        Edge.is(x, 0, "widened", 2);
        Edge.kept(x, 0, 1, 5);
        Edge.is(x, true, "leak", 1);
        Edge.is(x, 3, "appeal", 3, 0);
        Edge.is(x, 4, "round");
        Edge.is(x, 7, "node", 4, 3);
        Edge.is(x, 6, "widened", 4);
        Edge.ask(x, "go", 2);
        Edge.is(x, 5, "appeal", 2, 0);
        Edge.is(x, 6, "round");
        Edge.is(x, 6, "node", 6, 3);
        Edge.is(x, 6, "widened", 6);
        Edge.ask(x, "go", 2);
        Edge.is(x, 7, "appeal", 1, 0);
        Edge.is(x, 8, "round");
        Edge.is(x, 0, "widened", 8);
        Edge.says(35, "ISSUES by which a NODE is WIDENED (bits; 0: no ROUND, NODE 0).");
        Edge.is(x, 0, "widened", 0);
        for (int appeal : new int[] {1, 3, 5, 7}) {
            Edge.is(x, 0, "widened", appeal);
        }
        Edge.is(new RemandTree(), 0, "widened", 0);
        Edge.is(Scenes.deep(), 0, "widened", 38);
        behindSecond();
        Edge.refusedFor(Scenes::grown, Edge.INDEX, Edge.outside(8), "widened", Edge.IT);
        Edge.refusedFor(Scenes::bare, Edge.INDEX, Edge.outside(1), "widened", Edge.IT);
    }

    /** The round ahead is two appeals back. */
    private static void behindSecond() {
        RemandTree x = Edge.of("issue a choice;issue b choice;claim a or b;");
        Edge.kept(x, 0, 1, 5);
        Edge.rule(x, 1, 1, 9);
        Edge.is(x, 1, "appeal", 1, 0);
        Edge.is(x, 2, "round");
        Edge.rule(x, 0, 1, 0);
        Edge.is(x, 3, "appeal", 0, 0);
        Edge.is(x, 4, "appeal", 2, 0);
        Edge.is(x, 5, "round");
        Edge.is(x, 2, "node", 5, 3);
        Edge.is(x, 2, "widened", 5);
    }

    private static void leaf() {
        Edge.says(36, "The k-th NODE that is ahead of none; NONE.");
        RemandTree x = Scenes.grown();
        Edge.row(x, new int[] {4, 5, 6, 7, -1, -1}, "leaf", Edge.IT);
        for (int k : new int[] {Edge.MIN, -1, 40, Edge.MAX}) {
            Edge.is(x, -1, "leaf", k);
        }
        Edge.row(new RemandTree(), new int[] {0, -1}, "leaf", Edge.IT);
        Edge.row(Scenes.deep(), new int[] {39, -1}, "leaf", Edge.IT);
        RemandTree full = Scenes.full();
        Edge.is(full, 1, "leaf", 0);
        Edge.is(full, 39, "leaf", 38);
        Edge.is(full, -1, "leaf", 39);
        Edge.leaves(Scenes::grown, -1, "leaf", 4);
    }

    private static void tree() {
        Edge.says(Edge.TERMS, "THE TREE WRITTEN: from NODE 0 on: a NODE's number, then r, or a letter by how it was: a (0), o (1), v (2), m (3); "
            + "if NODES have it as the one ahead, these in ( ), by numbers, with , between.");
        Edge.writes(Scenes.grown(), "0r(1m(2r(3v(4a)),7r),5a,6o)", "tree");
        Edge.writes(new RemandTree(), "0r", "tree");
        RemandTree two = new RemandTree();
        Edge.is(two, 1, "appeal", 0, 0);
        Edge.writes(two, "0r(1a)", "tree");
        Edge.is(two, 1, "go", 0);
        Edge.is(two, 2, "appeal", 0, 0);
        Edge.writes(two, "0r(1a,2a)", "tree");
        Edge.is(two, 2, "go", 1);
        Edge.is(two, 3, "appeal", 0, 0);
        Edge.writes(two, "0r(1a(3a),2a)", "tree");
        Edge.writes(two, "round", "write", 0);
        Edge.is(two, -1, "octet", 5);
    }

    private static void treeLongest() {
        Edge.says(37, "THE TREE is WRITTEN: how many bytes.");
        StringBuilder wide = new StringBuilder("0r(");
        StringBuilder deep = new StringBuilder("0r");
        for (int node = 1; node < 40; node++) {
            wide.append(node).append(node < 39 ? "m," : "m)");
            deep.append('(').append(node).append(node % 2 == 1 ? 'm' : 'r');
        }
        Edge.writes(Scenes.full(), wide.toString(), "tree");
        Edge.writes(Scenes.deep(), deep + ")".repeat(39), "tree");
    }

    private static void path() {
        Edge.says(38, "The k-th NODE on the way from NODE 0 to a told one, both too; NONE behind.");
        RemandTree x = Scenes.grown();
        Edge.row(x, new int[] {0, 1, 2, 3, 4, -1, -1}, "path", 4, Edge.IT);
        Edge.row(x, new int[] {0, 1, 7, -1}, "path", 7, Edge.IT);
        Edge.row(x, new int[] {0, 6, -1}, "path", 6, Edge.IT);
        Edge.row(x, new int[] {0, -1}, "path", 0, Edge.IT);
        for (int k : new int[] {Edge.MIN, Edge.MIN + 1, -1, 40, Edge.MAX}) {
            Edge.is(x, -1, "path", 4, k);
            Edge.is(x, -1, "path", 0, k);
        }
        RemandTree deep = Scenes.deep();
        Edge.is(deep, 0, "path", 39, 0);
        Edge.is(deep, 38, "path", 39, 38);
        Edge.is(deep, 39, "path", 39, 39);
        Edge.is(deep, -1, "path", 39, 40);
        Edge.refusedFor(Scenes::grown, Edge.INDEX, Edge.outside(8), "path", Edge.IT, 0);
        Edge.refusedFor(Scenes::bare, Edge.INDEX, Edge.outside(1), "path", Edge.IT, 0);
        Edge.refusedFor(Scenes::full, Edge.INDEX, Edge.outside(40), "path", Edge.IT, -1);
    }

    private static void common() {
        Edge.says(39, "The last NODE that is on the ways to both.");
        RemandTree x = Scenes.grown();
        int[][] want = {{0, 0, 0}, {4, 4, 4}, {4, 3, 3}, {3, 4, 3}, {4, 7, 1}, {7, 4, 1}, {2, 7, 1}, {5, 6, 0}, {6, 4, 0}, {0, 7, 0}, {1, 7, 1}};
        for (int[] row : want) {
            Edge.is(x, row[2], "common", row[0], row[1]);
        }
        RemandTree deep = Scenes.deep();
        Edge.is(deep, 38, "common", 39, 38);
        Edge.is(deep, 0, "common", 0, 39);
        Edge.is(deep, 39, "common", 39, 39);
        Edge.is(Scenes.full(), 0, "common", 39, 38);
        Edge.is(new RemandTree(), 0, "common", 0, 0);
        Edge.refusedFor(Scenes::grown, Edge.INDEX, Edge.outside(8), "common", Edge.IT, 0);
        Edge.refusedFor(Scenes::grown, Edge.INDEX, Edge.outside(8), "common", 7, Edge.IT);
        Edge.refusedFor(Scenes::bare, Edge.INDEX, Edge.outside(1), "common", 0, Edge.IT);
    }

    private static void child() {
        Edge.says(40, "The k-th NODE whose NODE ahead is a told one; NONE behind.");
        RemandTree x = Scenes.grown();
        Edge.row(x, new int[] {1, 5, 6, -1, -1, -1, -1, -1}, "child", 0, Edge.IT);
        Edge.row(x, new int[] {2, 7, -1, -1, -1, -1}, "child", 1, Edge.IT);
        Edge.row(x, new int[] {3, -1, -1, -1}, "child", 2, Edge.IT);
        Edge.row(x, new int[] {-1, -1, -1}, "child", 4, Edge.IT);
        Edge.row(x, new int[] {-1, -1}, "child", 7, Edge.IT);
        for (int k : new int[] {Edge.MIN, -1, 39, 40, Edge.MAX}) {
            Edge.is(x, -1, "child", 0, k);
        }
        RemandTree full = Scenes.full();
        Edge.is(full, 1, "child", 0, 0);
        Edge.is(full, 39, "child", 0, 38);
        Edge.is(full, -1, "child", 0, 39);
        Edge.is(full, -1, "child", 39, 0);
        Edge.is(Scenes.deep(), 39, "child", 38, 0);
        Edge.is(new RemandTree(), -1, "child", 0, 0);
        Edge.refusedFor(Scenes::grown, Edge.INDEX, Edge.outside(8), "child", Edge.IT, 0);
        Edge.refusedFor(Scenes::bare, Edge.INDEX, Edge.outside(1), "child", Edge.IT, 0);
        Edge.refusedFor(Scenes::full, Edge.INDEX, Edge.outside(40), "child", Edge.IT, -1);
    }

    private static void count() {
        Edge.says(41, "0 ISSUES, 1 NODES, 2 NOW, 3 ROUNDS, 4 APPEALS, 5 to 8 APPEALS that were so (0 to 3), 9 NAMES in THE CLAIM, 10 bytes "
            + "WRITTEN.");
        RemandTree x = Scenes.grown();
        Edge.row(x, new int[] {3, 8, 7, 3, 5, 2, 1, 1, 1, 3, 18}, "count", Edge.IT);
        Edge.row(Scenes.full(), new int[] {1, 40, 0, 1, 39, 0, 0, 0, 39, 1, 9}, "count", Edge.IT);
        Edge.row(Scenes.deep(), new int[] {1, 40, 39, 20, 20, 0, 0, 0, 20, 1, 9}, "count", Edge.IT);
        Edge.row(new RemandTree(), new int[] {0, 1, 0, 1, 0, 0, 0, 0, 0, 0, 0}, "count", Edge.IT);
        RemandTree y = Edge.of("issue a anew;issue b anew;issue c choice;claim a and b or c;");
        Edge.kept(y, 0, 0, 5);
        Edge.kept(y, 1, 1, 5);
        Edge.kept(y, 2, 1, 5);
        int[][] briefs = {{0, 0}, {2, 1}, {2, 1}, {2, 0}, {2, 0}, {2, 0}, {4, 0}, {4, 0}, {4, 0}, {4, 0}};
        for (int[] brief : briefs) {
            Edge.ask(y, "appeal", brief[0], brief[1]);
            Edge.ask(y, "go", 0);
        }
        Edge.row(y, new int[] {3, 11, 0, 1, 10, 1, 2, 3, 4, 3, 0}, "count", Edge.IT);
        Edge.says(41, "NONE for another what.");
        for (int what : Edge.outside(11)) {
            Edge.leaves(Scenes::grown, -1, "count", what);
        }
    }

    private static void lastCall() {
        Edge.says(Edge.TERMS, "An object is used for at most 512 calls after it has been made");
        RemandTree x = Scenes.over();
        while (Edge.calls(x) < Edge.MOST_CALLS - 1) {
            Edge.is(x, 1, "count", 1);
        }
        Edge.is(x, 1, "appeal", 0, 0);
        Check.due("calls", Edge.calls(x), Edge.MOST_CALLS);
        RemandTree y = new RemandTree();
        while (Edge.calls(y) < Edge.MOST_CALLS - 20) {
            Edge.is(y, 0, "count", 0);
        }
        Edge.tape(y, "issue a anew;claim a;");
        Edge.is(y, 1, "read");
        while (Edge.calls(y) < Edge.MOST_CALLS - 1) {
            Edge.is(y, 1, "count", 1);
        }
        Edge.is(y, 0, "rule", 0, 1, 9);
    }
}
