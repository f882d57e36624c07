/**
 * Objects to refuse calls of: each has a text, a fault, a tape that is not read yet, something written and, step by
 * step on, more nodes, so that a change of any of that would be seen.
 */
final class Scenes {
    static final String TEXT = "issue a choice;issue b anew;issue cc anew rests b;claim (a or b) and cc;";

    private Scenes() {
    }

    private static RemandTree dressed(String text) {
        RemandTree x = Edge.of(text);
        Edge.tape(x, "claim q;");
        Edge.ask(x, "read");
        Edge.ask(x, "tell", 2, 2, 6);
        return x;
    }

    private static RemandTree laid(RemandTree x) {
        Edge.ask(x, "write", 0);
        Edge.tape(x, "issue q clear;issue r clear;claim q and r;");
        return x;
    }

    private static RemandTree beginning() {
        RemandTree x = dressed(TEXT);
        Edge.kept(x, 0, 1, 5);
        return x;
    }

    private static RemandTree ruled() {
        RemandTree x = beginning();
        Edge.kept(x, 1, 1, 5);
        Edge.kept(x, 2, 0, 5);
        return x;
    }

    private static RemandTree sentBack() {
        RemandTree x = ruled();
        Edge.is(x, 1, "appeal", 1, 0);
        Edge.is(x, 3, "node", 1, 2);
        return x;
    }

    private static RemandTree again() {
        RemandTree x = sentBack();
        Edge.is(x, 2, "round");
        return x;
    }

    private static RemandTree ruledAgain() {
        RemandTree x = again();
        Edge.kept(x, 0, 0, 1);
        return x;
    }

    private static RemandTree turned() {
        RemandTree x = ruledAgain();
        Edge.is(x, 3, "appeal", 0, 4);
        Edge.is(x, 2, "node", 3, 2);
        return x;
    }

    private static RemandTree twice() {
        RemandTree x = turned();
        Edge.is(x, 4, "appeal", 0, 0);
        Edge.is(x, 0, "node", 4, 2);
        return x;
    }

    /** No text was read. */
    static RemandTree bare() {
        return laid(new RemandTree());
    }

    /** Now is node 0: a is for side 1, side 0 keeps it; b and cc are open. */
    static RemandTree open() {
        return laid(beginning());
    }

    /** Now is node 0, which is over: a and b are for 1, cc for 0, all are kept, side 1 wins. */
    static RemandTree over() {
        return laid(ruled());
    }

    /** Now is node 1, remanded: a is open, b settled. */
    static RemandTree remanded() {
        return laid(sentBack());
    }

    /** Now is node 2, a round for a alone, in which b is settled. */
    static RemandTree round() {
        return laid(again());
    }

    /** Now is node 2, which is over: a is for 0 now, side 1 keeps it, side 0 wins. */
    static RemandTree roundOver() {
        return laid(ruledAgain());
    }

    /** Now is node 3, level 1, reversed: cc was turned, side 1 wins, all is settled. */
    static RemandTree reversed() {
        return laid(turned());
    }

    /** Now is node 4, level 2, affirmed. */
    static RemandTree second() {
        return laid(twice());
    }

    /** Now is node 1, level 1, affirmed, behind node 0. */
    static RemandTree affirmed() {
        RemandTree x = ruled();
        Edge.is(x, 1, "appeal", 0, 0);
        Edge.is(x, 0, "node", 1, 2);
        return laid(x);
    }

    /** Now is node 1, level 1, affirmed otherwise, behind node 0. */
    static RemandTree otherwise() {
        RemandTree x = ruled();
        Edge.is(x, 1, "appeal", 1, 4);
        Edge.is(x, 1, "node", 1, 2);
        return laid(x);
    }

    /** There are 40 nodes; now is node 0, which is over. Those behind it were remanded, each with it ahead. */
    static RemandTree full() {
        RemandTree x = dressed("issue a choice;claim a;");
        Edge.kept(x, 0, 1, 5);
        for (int node = 1; node <= 39; node++) {
            Edge.is(x, node, "appeal", 1, 0);
            Edge.ask(x, "go", 0);
        }
        return laid(x);
    }

    /** The same; now is node 39, which was remanded. */
    static RemandTree fullRemanded() {
        RemandTree x = full();
        Edge.ask(x, "go", 39);
        return x;
    }

    /** There are 39 nodes; now is node 38, which was remanded. */
    static RemandTree almostFull() {
        RemandTree x = dressed("issue a choice;claim a;");
        Edge.kept(x, 0, 1, 5);
        for (int node = 1; node <= 38; node++) {
            Edge.ask(x, "go", 0);
            Edge.is(x, node, "appeal", 1, 0);
        }
        return laid(x);
    }

    /** 0r(1m(2r(3v(4a)),7r),5a,6o); now is node 7, a round in which a is open. */
    static RemandTree grown() {
        RemandTree x = twice();
        Edge.is(x, 4, "go", 0);
        Edge.is(x, 5, "appeal", 0, 0);
        Edge.is(x, 5, "go", 0);
        Edge.is(x, 6, "appeal", 1, 4);
        Edge.is(x, 6, "go", 1);
        Edge.is(x, 7, "round");
        return laid(x);
    }

    /** 40 nodes, each behind the one before: rounds and appeals that were remanded. Now is node 39, an appeal. */
    static RemandTree deep() {
        RemandTree x = dressed("issue a choice;claim a;");
        for (int node = 1; node < 40; node += 2) {
            Edge.kept(x, 0, 1, 5);
            Edge.is(x, node, "appeal", 1, 0);
            if (node < 39) {
                Edge.is(x, node + 1, "round");
            }
        }
        return laid(x);
    }
}
