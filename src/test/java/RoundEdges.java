/** Boundary cases of promises 10 to 12, and of what Terms says of ISSUES, THE CLAIM and ROUNDS. */
final class RoundEdges {
    private RoundEdges() {
    }

    static void run() {
        atLeast();
        whoWins();
        sure();
        roundBegins();
        eightGoAlong();
        laterRound();
        mandateLeft();
        ruleArguments();
        ruleState();
        restsOpen();
        keepWhoMay();
        keepArguments();
        nobodyKeeps();
        leakWhere();
        leakIsNotRuled();
    }

    private static RemandTree three(String claim) {
        return Edge.of("issue a anew;issue b anew;issue c anew;claim " + claim + ";");
    }

    private static void atLeast() {
        Edge.says(Edge.TERMS, "N of ( .. ): if N of these at least hold.");
        int[] ways = {8, 7, 4, 1, 0, 0, 0, 0, 0, 0};
        for (int n = 0; n <= 9; n++) {
            Edge.is(three(n + " of (a, b, c)"), ways[n], "ways", 0);
            Edge.is(three(n + " of (a, b, c)"), 8 - ways[n], "ways", 1);
        }
        Edge.is(three("1 of (a)"), 4, "ways", 0);
        Edge.is(three("2 of (a, a)"), 4, "ways", 0);
        Edge.is(three("3 of (a, a)"), 0, "ways", 0);
        Edge.is(three("9 of (a,a,a,a,a,a,a,a,b)"), 2, "ways", 0);
        Edge.is(three("8 of (a,a,a,a,a,a,a,a,b)"), 4, "ways", 0);
        Edge.is(three("2 of (a or b, b or c, not a)"), 6, "ways", 0);
    }

    private static void whoWins() {
        Edge.says(Edge.TERMS, "SIDE 0 wins, if it holds, else SIDE 1");
        for (int side = 0; side <= 1; side++) {
            RemandTree x = Edge.of("issue a anew;claim a;");
            Edge.rule(x, 0, side, 0);
            Edge.is(x, side, "node", 0, 7);
            RemandTree y = Edge.of("issue a anew;claim not a;");
            Edge.rule(y, 0, side, 9);
            Edge.is(y, 1 - side, "node", 0, 7);
        }
    }

    private static void sure() {
        Edge.says(Edge.TERMS, "it is SURE who wins, if that is so however ISSUES that are OPEN would be DECIDED.");
        Edge.is(three("a or not a"), 0, "node", 0, 7);
        Edge.is(three("a and not a"), 1, "node", 0, 7);
        Edge.is(three("0 of (a)"), 0, "node", 0, 7);
        Edge.is(three("a or b or c"), -1, "node", 0, 7);
        RemandTree x = three("a and (b or c)");
        Edge.rule(x, 0, 0, 0);
        Edge.is(x, -1, "node", 0, 7);
        Edge.rule(x, 1, 1, 0);
        Edge.is(x, -1, "node", 0, 7);
        Edge.rule(x, 2, 1, 0);
        Edge.is(x, 1, "node", 0, 7);
        RemandTree y = three("a and (b or c)");
        Edge.rule(y, 0, 1, 0);
        Edge.is(y, 1, "node", 0, 7);
        RemandTree z = three("a or b and c");
        Edge.rule(z, 0, 0, 0);
        Edge.is(z, 0, "node", 0, 7);
        RemandTree eight = Edge.of("issue a anew;issue b anew;issue c anew;issue d anew;issue e anew;issue f anew;issue g anew;"
            + "issue h anew;claim a and b and c and d and e and f and g and h;");
        for (int issue = 7; issue >= 1; issue--) {
            Edge.rule(eight, issue, 0, 0);
            Edge.is(eight, -1, "node", 0, 7);
        }
        Edge.rule(eight, 0, 0, 0);
        Edge.is(eight, 0, "node", 0, 7);
    }

    private static void roundBegins() {
        Edge.says(Edge.TERMS, "ISSUES of its MANDATE are OPEN as it begins (NODE 0: all ISSUES), others as in the NODE ahead.");
        RemandTree x = Edge.of("issue a anew;issue b anew;issue c anew;claim a;");
        Edge.is(x, 7, "node", 0, 3);
        Edge.is(x, 7, "node", 0, 4);
        RemandTree y = Scenes.round();
        Edge.is(y, 1, "node", 2, 3);
        Edge.is(y, 1, "node", 2, 4);
        Edge.row(y, new int[] {-1, -1, -1, -1}, "decided", 2, 0, Edge.IT);
        Edge.row(y, new int[] {1, 5, 0, 0}, "decided", 2, 1, Edge.IT);
        Edge.row(y, new int[] {0, 5, 0, 0}, "decided", 2, 2, Edge.IT);
        Edge.is(y, 2, "node", 2, 5);
        Edge.is(y, 2, "node", 2, 12);
        Edge.is(y, 4, "node", 2, 13);
        RemandTree leaks = Scenes.round();
        Edge.is(leaks, true, "leak", 1);
        Edge.kept(leaks, 0, 1, 5);
        Edge.is(leaks, 3, "appeal", 1, 0);
        Edge.is(leaks, 4, "round");
        Edge.is(leaks, 2, "node", 4, 6);
        Edge.is(leaks, false, "leak", 1);
    }

    /** The last of eight goes along from node to node as the first does. */
    private static void eightGoAlong() {
        Edge.says(Edge.TERMS, "others as in the NODE ahead.");
        RemandTree x = Edge.of("issue a choice;issue b anew;issue c anew;issue d anew;issue e anew;issue f anew;issue g anew;"
            + "issue h choice;claim a;");
        for (int issue = 0; issue < 8; issue++) {
            Edge.kept(x, issue, 1, issue == 7 ? 5 : 9 - issue);
        }
        Edge.is(x, 1, "appeal", 1, 0);
        Edge.is(x, 2, "round");
        for (int issue = 1; issue < 8; issue++) {
            int flaw = issue == 7 ? 5 : 9 - issue;
            Edge.row(x, new int[] {1, flaw, 0, 0}, "decided", 1, issue, Edge.IT);
            Edge.row(x, new int[] {1, flaw, 0, 0}, "decided", 2, issue, Edge.IT);
        }
        Edge.ask(x, "go", 0);
        Edge.is(x, 3, "appeal", 129, 0);
        Edge.is(x, 129, "node", 3, 4);
        Edge.is(x, 4, "round");
        Edge.rule(x, 7, 0, 2);
        Edge.rule(x, 0, 1, 3);
        Edge.is(x, 5, "appeal", 0, 0);
        Edge.is(x, 6, "appeal", 0, 0);
        for (int node = 4; node <= 6; node++) {
            Edge.row(x, new int[] {0, 2, 0, 4}, "decided", node, 7, Edge.IT);
            Edge.row(x, new int[] {1, 3, 0, 4}, "decided", node, 0, Edge.IT);
        }
    }

    private static void laterRound() {
        Edge.says(Edge.TERMS, "A ROUND after an APPEAL that was REMANDED has the ISSUES that are OPEN as its MANDATE.");
        RemandTree x = Edge.of("issue a choice;issue b choice rests a;issue c anew;claim b;");
        Edge.kept(x, 0, 1, 5);
        Edge.rule(x, 1, 1, 0);
        Edge.rule(x, 2, 1, 0);
        Edge.is(x, 1, "appeal", 1, 0);
        Edge.is(x, 3, "node", 1, 3);
        Edge.is(x, 2, "round");
        Edge.is(x, 3, "node", 2, 3);
        Edge.is(x, Edge.STATE, "rule", 2, 0, 0);
        Edge.is(x, 1, "rule", 0, 0, 0);
        Edge.is(x, 3, "node", 2, 3);
        Edge.is(x, 2, "node", 2, 4);
        Edge.is(x, 0, "rule", 1, 0, 0);
        Edge.is(x, 3, "node", 2, 3);
    }

    private static void mandateLeft() {
        Edge.says(10, "An ISSUE is RULED: how many of the MANDATE are OPEN then.");
        RemandTree x = Edge.of("issue a anew;issue b anew;issue c anew;issue d anew;issue e anew;issue f anew;issue g anew;"
            + "issue h anew;claim a;");
        for (int issue = 7; issue >= 0; issue--) {
            Edge.is(x, issue, "rule", issue, issue & 1, issue + 1);
        }
        Edge.row(Edge.of("issue a anew;claim a;"), new int[] {0}, "rule", Edge.IT, 0, 0);
        RemandTree y = Scenes.round();
        Edge.is(y, 0, "rule", 0, 1, 9);
        Edge.row(y, new int[] {1, 9, 0, 2}, "decided", 2, 0, Edge.IT);
        Edge.row(y, new int[] {1, 5, 0, 0}, "decided", 0, 0, Edge.IT);
        Edge.says(Edge.TERMS, "A ROUND is OVER, if no ISSUE of its MANDATE is OPEN.");
        RemandTree z = three("a");
        for (int issue = 0; issue < 3; issue++) {
            Edge.is(z, Edge.STATE, "appeal", 0, 0);
            Edge.rule(z, issue, 0, 0);
        }
        Edge.is(z, 1, "appeal", 0, 0);
    }

    private static void ruleArguments() {
        Edge.says(Edge.TERMS, "DECIDED for a SIDE, with a FLAW (0 to 9).");
        for (int side = 0; side <= 1; side++) {
            for (int flaw = 0; flaw <= 9; flaw++) {
                RemandTree x = Edge.of("issue a anew;claim a;");
                Edge.is(x, 0, "rule", 0, side, flaw);
                Edge.row(x, new int[] {side, flaw, 0, 0}, "decided", 0, 0, Edge.IT);
            }
        }
        Edge.says(10, "IllegalArgumentException: SIDE or FLAW is none");
        Edge.refusedFor(Scenes::open, Edge.ARGUMENT, Edge.outside(2), "rule", 1, Edge.IT, 0);
        Edge.refusedFor(Scenes::open, Edge.ARGUMENT, Edge.outside(10), "rule", 1, 0, Edge.IT);
        Edge.refusedFor(Scenes::open, Edge.INDEX, Edge.outside(3), "rule", Edge.IT, 0, 0);
        Edge.says(Edge.TERMS, "Of several exceptions the one told first is thrown");
        Edge.refused(Scenes::open, Edge.INDEX, "rule", 3, 2, 10);
        Edge.refused(Scenes::second, Edge.INDEX, "rule", -1, 2, 10);
        Edge.refused(Scenes::open, Edge.ARGUMENT, "rule", 0, 2, 10);
        Edge.refused(Scenes::open, Edge.ARGUMENT, "rule", 2, 0, 10);
        Edge.refused(Scenes::second, Edge.ARGUMENT, "rule", 0, -1, 0);
        Edge.refused(Scenes::bare, Edge.INDEX, "rule", 0, 2, 10);
    }

    private static void ruleState() {
        Edge.says(10, "IllegalStateException: NOW is no ROUND, the ISSUE is not OPEN or not of the MANDATE, something that it RESTS "
            + "on is OPEN.");
        Edge.refused(Scenes::remanded, Edge.STATE, "rule", 0, 0, 0);
        Edge.refused(Scenes::reversed, Edge.STATE, "rule", 0, 0, 0);
        Edge.refused(Scenes::second, Edge.STATE, "rule", 0, 0, 0);
        Edge.refused(Scenes::open, Edge.STATE, "rule", 0, 1, 5);
        Edge.refused(Scenes::open, Edge.STATE, "rule", 0, 0, 5);
        Edge.refused(Scenes::over, Edge.STATE, "rule", 2, 0, 5);
        Edge.refused(Scenes::round, Edge.STATE, "rule", 1, 0, 0);
        Edge.refused(Scenes::round, Edge.STATE, "rule", 2, 0, 0);
        Edge.refused(Scenes::roundOver, Edge.STATE, "rule", 0, 0, 0);
        Edge.refused(Scenes::open, Edge.STATE, "rule", 2, 0, 0);
    }

    private static void restsOpen() {
        Edge.says(Edge.TERMS, "An ISSUE that is OPEN and of the MANDATE is RULED: DECIDED for a SIDE, with a FLAW, if all that it RESTS "
            + "on is DECIDED");
        String text = "issue a anew;issue b anew;issue c anew rests a,b;issue d anew rests c;claim d;";
        for (int first = 0; first <= 1; first++) {
            RemandTree x = Edge.of(text);
            Edge.is(x, Edge.STATE, "rule", 2, 0, 0);
            Edge.is(x, 3, "rule", first, 1, 9);
            Edge.is(x, Edge.STATE, "rule", 2, 0, 0);
            Edge.is(x, Edge.STATE, "rule", 3, 0, 0);
            Edge.is(x, 2, "rule", 1 - first, 1, 9);
            Edge.is(x, Edge.STATE, "rule", 3, 0, 0);
            Edge.is(x, 1, "rule", 2, 0, 0);
            Edge.is(x, 0, "rule", 3, 0, 0);
        }
    }

    private static void keepWhoMay() {
        Edge.says(11, "A SIDE KEEPS an ISSUE: whether that is new.");
        for (int side = 0; side <= 1; side++) {
            RemandTree x = three("a");
            Edge.rule(x, 2, 1 - side, 0);
            Edge.is(x, 0, "node", 0, 12 + side);
            Edge.is(x, true, "keep", 2, side);
            Edge.is(x, false, "keep", 2, side);
            Edge.is(x, false, "keep", 2, side);
            Edge.is(x, 4, "node", 0, 12 + side);
            Edge.is(x, 0, "node", 0, 13 - side);
            Edge.is(x, Edge.STATE, "keep", 2, 1 - side);
        }
        Edge.says(11, "IllegalStateException: NOW is no ROUND, or the ISSUE was not RULED against it in this ROUND.");
        Edge.refused(Scenes::open, Edge.STATE, "keep", 0, 1);
        Edge.refused(Scenes::open, Edge.STATE, "keep", 1, 0);
        Edge.refused(Scenes::open, Edge.STATE, "keep", 1, 1);
        Edge.refused(Scenes::round, Edge.STATE, "keep", 0, 0);
        Edge.refused(Scenes::round, Edge.STATE, "keep", 1, 0);
        Edge.refused(Scenes::round, Edge.STATE, "keep", 2, 1);
        Edge.refused(Scenes::roundOver, Edge.STATE, "keep", 0, 0);
        Edge.refused(Scenes::remanded, Edge.STATE, "keep", 1, 0);
        Edge.refused(Scenes::reversed, Edge.STATE, "keep", 2, 0);
        Edge.refused(Scenes::second, Edge.STATE, "keep", 0, 1);
        RemandTree over = Scenes.roundOver();
        Edge.is(over, false, "keep", 0, 1);
        RemandTree back = Scenes.second();
        Edge.ask(back, "go", 0);
        Edge.is(back, false, "keep", 0, 0);
        Edge.is(back, Edge.STATE, "keep", 0, 1);
    }

    private static void keepArguments() {
        Edge.says(11, "IllegalArgumentException: the SIDE is none");
        Edge.refusedFor(Scenes::open, Edge.ARGUMENT, Edge.outside(2), "keep", 0, Edge.IT);
        Edge.refusedFor(Scenes::open, Edge.INDEX, Edge.outside(3), "keep", Edge.IT, 0);
        Edge.refused(Scenes::open, Edge.INDEX, "keep", 3, 2);
        Edge.refused(Scenes::second, Edge.INDEX, "keep", 3, 2);
        Edge.refused(Scenes::second, Edge.ARGUMENT, "keep", 0, 2);
        Edge.refused(Scenes::open, Edge.ARGUMENT, "keep", 1, 2);
        Edge.refused(Scenes::bare, Edge.INDEX, "keep", 0, 0);
    }

    private static void nobodyKeeps() {
        Edge.says(Edge.TERMS, "nobody KEEPS it then.");
        RemandTree x = Scenes.round();
        Edge.rule(x, 0, 1, 2);
        Edge.is(x, 2, "node", 2, 12);
        Edge.is(x, 4, "node", 2, 13);
        Edge.is(x, true, "keep", 0, 0);
        Edge.is(x, 3, "node", 2, 12);
        Edge.is(x, 3, "node", 0, 12);
        Edge.says(Edge.TERMS, "The SIDE against which an ISSUE was RULED in this ROUND may KEEP it.");
        RemandTree y = Scenes.roundOver();
        Edge.is(y, 5, "node", 2, 13);
        Edge.is(y, 2, "node", 2, 12);
        Edge.is(y, Edge.STATE, "keep", 0, 0);
    }

    private static void leakWhere() {
        Edge.says(12, "An ISSUE is told to LEAK: whether that is new.");
        RemandTree x = Scenes.round();
        Edge.is(x, 0, "node", 2, 6);
        Edge.is(x, true, "leak", 1);
        Edge.is(x, false, "leak", 1);
        Edge.is(x, 2, "node", 2, 6);
        Edge.is(x, 0, "node", 1, 6);
        Edge.is(x, 0, "node", 0, 6);
        Edge.says(12, "IllegalStateException: NOW is no ROUND, or the ISSUE is not SETTLED.");
        Edge.refused(Scenes::open, Edge.STATE, "leak", 0);
        Edge.refused(Scenes::over, Edge.STATE, "leak", 0);
        Edge.refused(Scenes::round, Edge.STATE, "leak", 0);
        Edge.refused(Scenes::round, Edge.STATE, "leak", 2);
        Edge.refused(Scenes::roundOver, Edge.STATE, "leak", 0);
        Edge.refused(Scenes::remanded, Edge.STATE, "leak", 1);
        Edge.refused(Scenes::reversed, Edge.STATE, "leak", 1);
        Edge.refused(Scenes::second, Edge.STATE, "leak", 1);
        Edge.refusedFor(Scenes::round, Edge.INDEX, Edge.outside(3), "leak", Edge.IT);
        Edge.refusedFor(Scenes::second, Edge.INDEX, Edge.outside(3), "leak", Edge.IT);
        Edge.refused(Scenes::bare, Edge.INDEX, "leak", 0);
    }

    private static void leakIsNotRuled() {
        Edge.says(Edge.TERMS, "In a ROUND a SETTLED ISSUE may be told to LEAK (something new): it cannot be RULED by that.");
        RemandTree x = Scenes.round();
        Edge.is(x, true, "leak", 1);
        Edge.is(x, Edge.STATE, "rule", 1, 0, 0);
        Edge.is(x, Edge.STATE, "keep", 1, 0);
        Edge.is(x, 2, "node", 2, 5);
        Edge.is(x, 1, "node", 2, 3);
        Edge.is(x, 1, "node", 2, 4);
        Edge.is(x, 0, "rule", 0, 0, 0);
        Edge.is(x, false, "leak", 1);
    }
}
