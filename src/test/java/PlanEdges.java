/** Boundary cases of promises 17, 20 to 24 and 28 to 30: which briefs do best, what hangs on what. */
final class PlanEdges {
    private static final String EIGHT = "issue a anew;issue b anew;issue c anew;issue d anew;issue e anew;issue f anew;"
        + "issue g anew;issue h anew;claim ";
    private static final Edge.Made[] NO_APPEAL = {Scenes::open, Scenes::round, Scenes::remanded, Scenes::second};

    private PlanEdges() {
    }

    static void run() {
        bestPages();
        bestOrder();
        bestNone();
        bestRefused();
        pages();
        securePages();
        secureOrder();
        secureRefused();
        chainOneOrTwo();
        chainOrder();
        chainPages();
        chainByAffirmed();
        chainThatLeaks();
        chainRefused();
        swing();
        swingWithOpen();
        fates();
        fatesRefused();
        harmless();
        pivotal();
        ways();
    }

    /** Issues of a text ruled for side 1, all with a flaw, all kept. */
    private static RemandTree lost(String text, int issues, int flaw) {
        RemandTree x = Edge.of(text);
        for (int issue = 0; issue < issues; issue++) {
            Edge.kept(x, issue, 1, flaw);
        }
        return x;
    }

    private static RemandTree lostThree(String claim) {
        return lost("issue a anew;issue b anew;issue c anew;claim " + claim + ";", 3, 5);
    }

    private static void best(RemandTree x, int pages, int set, int how) {
        Edge.is(x, set, "best", pages, true);
        Edge.is(x, how, "best", pages, false);
    }

    private static void bestPages() {
        Edge.says(Edge.TERMS, "each ISSUE takes 1 page, and 1 more for each that it RESTS on");
        String text = "issue a choice;issue b anew;issue c anew rests b;issue d anew rests b,c;claim a or c or d;";
        RemandTree x = lost(text, 4, 5);
        best(x, 0, 0, 0);
        best(x, 1, 1, 3);
        best(x, 2, 4, 2);
        best(x, 99, 4, 2);
        RemandTree y = Edge.of(text);
        Edge.rule(y, 0, 1, 5);
        Edge.rule(y, 1, 1, 5);
        Edge.rule(y, 2, 1, 5);
        Edge.kept(y, 3, 1, 5);
        best(y, 2, 0, 0);
        best(y, 3, 8, 2);
        RemandTree eight = lost(EIGHT + "a and b and c and d and e and f and g and h;", 8, 5);
        best(eight, 7, 0, 0);
        best(eight, 8, 255, 2);
    }

    private static void bestOrder() {
        Edge.says(Edge.TERMS, "the one by which the APPEAL is REVERSED, else REMANDED, else AFFIRMED; of several the one of the fewest "
            + "ISSUES, of these the least as bits.");
        best(lostThree("a and b or c"), 99, 4, 2);
        best(lostThree("a and b or c"), 2, 4, 2);
        best(lostThree("a or b or c"), 99, 1, 2);
        best(lostThree("b or c"), 99, 2, 2);
        best(lostThree("a and b or b and c or c and a"), 99, 3, 2);
        best(lostThree("a and c or b and c"), 99, 5, 2);
        RemandTree x = lost("issue a choice;issue b anew;issue c anew;claim a or b and c;", 3, 5);
        best(x, 1, 1, 3);
        best(x, 2, 6, 2);
        RemandTree two = lost("issue a anew;issue b choice;issue c choice;claim b or c;", 3, 5);
        best(two, 99, 2, 3);
        RemandTree unheard = Edge.of("issue a anew;issue b choice;claim a or b;");
        Edge.rule(unheard, 0, 1, 5);
        Edge.kept(unheard, 1, 1, 5);
        best(unheard, 99, 2, 3);
        best(unheard, 0, 0, 0);
    }

    private static void bestNone() {
        Edge.says(17, "BEST with so many pages (0 to 99; set true), or how the APPEAL would be by it.");
        best(new RemandTree(), 99, 0, 0);
        best(lostThree("a and not a"), 99, 0, 0);
        RemandTree unkept = Edge.of("issue a anew;claim a;");
        Edge.rule(unkept, 0, 1, 7);
        best(unkept, 99, 0, 0);
        RemandTree plain = Edge.of("issue a anew;claim a;");
        Edge.rule(plain, 0, 1, 8);
        best(plain, 1, 1, 2);
        RemandTree bar = lost("issue a anew;claim a;bars first 6 4 7;", 1, 5);
        best(bar, 99, 0, 0);
        Edge.ask(bar, "tell", 1, 0, 5);
        best(bar, 1, 1, 2);
        RemandTree zeroWins = Edge.of("issue a anew;issue b anew;claim a or b;");
        Edge.kept(zeroWins, 0, 1, 5);
        Edge.kept(zeroWins, 1, 0, 5);
        best(zeroWins, 99, 2, 2);
        Edge.leaves(Scenes::over, 1, "best", 99, true);
        Edge.leaves(Scenes::over, 3, "best", 99, false);
        Edge.leaves(Scenes::over, 0, "best", 0, true);
        Edge.leaves(Scenes::affirmed, 0, "best", 99, true);
        Edge.leaves(Scenes::full, 1, "best", 1, true);
    }

    private static void bestRefused() {
        Edge.says(17, "IllegalArgumentException: the pages are none; IllegalStateException: no APPEAL can be made.");
        Edge.refusedFor(Scenes::over, Edge.ARGUMENT, Edge.outside(100), "best", Edge.IT, true);
        Edge.refusedFor(Scenes::over, Edge.ARGUMENT, Edge.outside(100), "best", Edge.IT, false);
        for (Edge.Made made : NO_APPEAL) {
            Edge.refused(made, Edge.STATE, "best", 0, true);
            Edge.refused(made, Edge.STATE, "best", 99, false);
            Edge.refused(made, Edge.ARGUMENT, "best", 100, true);
            Edge.refused(made, Edge.ARGUMENT, "best", -1, false);
        }
    }

    private static void pages() {
        Edge.says(20, "How many pages a set takes. IllegalArgumentException: it is none.");
        RemandTree x = Edge.of("issue a anew;issue b anew rests a;issue c anew rests a,b;issue d anew rests a,b,c;"
            + "issue e anew rests a,b,c,d;issue f anew rests a,b,c,d,e;issue g anew rests a,b,c,d,e,f;"
            + "issue h anew rests a,b,c,d,e,f,g;claim h;");
        Edge.is(x, 0, "pages", 0);
        for (int issue = 0; issue < 8; issue++) {
            Edge.is(x, issue + 1, "pages", 1 << issue);
        }
        Edge.is(x, 36, "pages", 255);
        for (int set : new int[] {256, 257, 511, -1, -256, Edge.MIN, Edge.MAX}) {
            Edge.is(x, Edge.ARGUMENT, "pages", set);
        }
        RemandTree chain = Edge.of("issue a anew;issue b anew rests a;issue c anew rests b;claim a;");
        Edge.is(chain, 2, "pages", 4);
        Edge.is(chain, 5, "pages", 7);
        Edge.refusedFor(Scenes::over, Edge.ARGUMENT, Edge.outside(8), "pages", Edge.IT);
        Edge.refusedFor(Scenes::bare, Edge.ARGUMENT, Edge.outside(1), "pages", Edge.IT);
        Edge.Made[] anywhere = {Scenes::open, Scenes::over, Scenes::remanded, Scenes::second};
        for (Edge.Made made : anywhere) {
            Edge.leaves(made, 4, "pages", 7);
        }
    }

    private static void secured(RemandTree x, int own, int others, int... want) {
        Edge.row(x, want, "secure", own, others, Edge.IT);
    }

    private static void securePages() {
        Edge.says(Edge.TERMS, "SECURED by the APPELLANT with so many pages, the other SIDE having so many");
        RemandTree x = Edge.of("issue a anew;issue b anew;issue c anew;claim a and c or b;");
        Edge.kept(x, 0, 1, 5);
        Edge.kept(x, 1, 1, 5);
        Edge.kept(x, 2, 0, 5);
        secured(x, 0, 99, 0, 0, 0);
        secured(x, 1, 0, 1, 2, 0);
        secured(x, 1, 1, 2, 2, 0);
        secured(x, 99, 99, 2, 2, 0);
        secured(x, 0, 0, 0, 0, 0);
        RemandTree y = Edge.of("issue a anew;issue d anew;issue b choice rests d;claim a and b;");
        Edge.kept(y, 0, 1, 5);
        Edge.kept(y, 1, 1, 5);
        Edge.kept(y, 2, 0, 5);
        secured(y, 1, 1, 1, 2, 0);
        secured(y, 1, 2, 1, 3, 4);
        secured(y, 99, 99, 1, 3, 4);
        RemandTree own = Edge.of("issue d anew;issue a anew rests d;claim a;");
        Edge.rule(own, 0, 1, 5);
        Edge.kept(own, 1, 1, 5);
        secured(own, 1, 99, 0, 0, 0);
        secured(own, 2, 99, 2, 2, 0);
    }

    private static void secureOrder() {
        Edge.says(Edge.TERMS, "that by which the worst that the other SIDE can bring about by one of its sets is best (REVERSED, REMANDED, "
            + "AFFIRMED of whatever sort); of several the one of the fewest ISSUES, then the least as bits.");
        secured(lostThree("a and b or c"), 99, 99, 4, 2, 0);
        secured(lostThree("b or c"), 99, 99, 2, 2, 0);
        secured(lostThree("a and b or b and c or c and a"), 99, 99, 3, 2, 0);
        RemandTree affirmed = Edge.of("issue a anew;issue b anew;claim a and b;");
        Edge.kept(affirmed, 0, 1, 5);
        Edge.kept(affirmed, 1, 0, 5);
        secured(affirmed, 99, 1, 0, 0, 0);
        secured(affirmed, 99, 0, 1, 2, 0);
        Edge.says(21, "the set (what 0), how the APPEAL would be then, as the other SIDE brings it about (1: 0 for AFFIRMED of whatever sort, "
            + "2, 3), the least set by which it does (2).");
        RemandTree x = Edge.of("issue a anew;issue b choice;issue c choice;claim a and b and c;");
        Edge.kept(x, 0, 1, 5);
        Edge.kept(x, 1, 0, 5);
        Edge.kept(x, 2, 0, 5);
        secured(x, 1, 0, 1, 2, 0);
        secured(x, 1, 1, 1, 3, 2);
        secured(x, 1, 2, 1, 3, 2);
        RemandTree better = Edge.of("issue a anew;issue b choice;issue c anew;issue d anew;claim a and b or c and d;");
        Edge.kept(better, 0, 1, 5);
        Edge.kept(better, 1, 0, 5);
        Edge.kept(better, 2, 1, 5);
        Edge.kept(better, 3, 0, 5);
        secured(better, 1, 99, 1, 3, 2);
        secured(better, 99, 1, 5, 2, 0);
        secured(better, 99, 2, 1, 3, 2);
        secured(new RemandTree(), 99, 99, 0, 0, 0);
    }

    private static void secureRefused() {
        Edge.says(21, "IllegalArgumentException: pages (0 to 99) are none; IllegalStateException: no APPEAL can be made; "
            + "NoSuchElementException: another what.");
        Edge.refusedFor(Scenes::over, Edge.ARGUMENT, Edge.outside(100), "secure", Edge.IT, 0, 0);
        Edge.refusedFor(Scenes::over, Edge.ARGUMENT, Edge.outside(100), "secure", 0, Edge.IT, 3);
        Edge.refusedFor(Scenes::over, Edge.SUCH, Edge.outside(3), "secure", 99, 99, Edge.IT);
        for (Edge.Made made : NO_APPEAL) {
            Edge.refused(made, Edge.STATE, "secure", 0, 0, 0);
            Edge.refused(made, Edge.STATE, "secure", 99, 99, 3);
            Edge.refused(made, Edge.ARGUMENT, "secure", 100, 0, 3);
            Edge.refused(made, Edge.ARGUMENT, "secure", 0, -1, 0);
        }
        // a alone is answered by cc; b opens cc, whatever the other side has heard
        int[] want = {2, 3, 0};
        for (int what = 0; what <= 2; what++) {
            Edge.leaves(Scenes::over, want[what], "secure", 99, 99, what);
            Edge.leaves(Scenes::full, new int[] {1, 3, 0}[what], "secure", 1, 0, what);
        }
    }

    private static void chained(RemandTree x, int pages, int... want) {
        Edge.row(x, want, "chain", pages, Edge.IT);
    }

    private static void chainOneOrTwo() {
        Edge.says(Edge.TERMS, "of all such what comes out best (REVERSED, REMANDED, AFFIRMED of the last of them; of like ones that of one "
            + "APPEAL ahead of that of two");
        RemandTree x = Edge.of("issue a anew;issue b anew;issue c anew;claim a and b or c;bars first 5 4 7;bars second 4 4 7;");
        Edge.kept(x, 0, 1, 5);
        Edge.kept(x, 1, 1, 5);
        Edge.kept(x, 2, 1, 4);
        chained(x, 0, 0, 0, 0);
        chained(x, 1, 2, 4, 4);
        chained(x, 2, 2, 3, -1);
        chained(x, 99, 2, 3, -1);
        RemandTree y = Edge.of("issue a choice;issue c anew;claim a or c;bars first 5 4 7;bars second 4 4 7;");
        Edge.kept(y, 0, 1, 5);
        Edge.kept(y, 1, 1, 4);
        chained(y, 1, 2, 2, 2);
        Edge.ask(y, "tell", 2, 0, 5);
        chained(y, 1, 3, 1, -1);
        RemandTree z = Edge.of("issue a choice;issue b choice;claim a or b;bars second 1 3 7;");
        Edge.kept(z, 0, 1, 3);
        Edge.kept(z, 1, 1, 4);
        chained(z, 1, 3, 2, -1);
        Edge.ask(z, "tell", 1, 1, 5);
        chained(z, 1, 3, 1, 1);
        Edge.says(22, "what 0 how the last APPEAL of it would be (0, 2, 3), 1 the set for LEVEL 1, 2 that for LEVEL 2 (NONE: one APPEAL "
            + "is enough).");
        chained(lost("issue a anew;claim a;", 1, 5), 1, 2, 1, -1);
        chained(lost("issue a clear;claim a;", 1, 7), 1, 3, 1, -1);
        Edge.says(Edge.TERMS, "where both are AFFIRMED: the empty sets");
        chained(lost("issue a anew;claim a;bars first 9 9 9;bars second 9 9 9;", 1, 5), 99, 0, 0, 0);
        chained(lost("issue a anew;claim a;", 1, 5), 0, 0, 0, 0);
        chained(new RemandTree(), 99, 0, 0, 0);
    }

    private static RemandTree plainThree(String claim) {
        RemandTree x = Edge.of("issue a anew;issue b anew;issue c anew;claim " + claim + ";bars first 9 9 9;");
        for (int issue = 0; issue < 3; issue++) {
            Edge.rule(x, issue, 1, 8);
        }
        return x;
    }

    private static void chainOrder() {
        Edge.says(Edge.TERMS, "then the fewest ISSUES at LEVEL 1, then the least set there; at LEVEL 2 likewise");
        chained(lostThree("a and b or c"), 99, 2, 4, -1);
        chained(lostThree("b or c"), 99, 2, 2, -1);
        RemandTree fewest = Edge.of("issue b anew;issue c anew;claim b or c;bars first 9 9 9;");
        Edge.kept(fewest, 0, 1, 5);
        Edge.rule(fewest, 1, 1, 8);
        chained(fewest, 99, 2, 0, 2);
        RemandTree least = lost("issue a anew;issue b anew;issue c anew;claim b or c;bars first 9 9 9;", 3, 5);
        chained(least, 99, 2, 2, 2);
        RemandTree pair = lost("issue a anew;issue b anew;issue c anew;claim a and c or b and c;bars first 9 9 9;", 3, 5);
        chained(pair, 99, 2, 5, 5);
        chained(plainThree("a and b or c"), 99, 2, 0, 4);
        chained(plainThree("b or c"), 99, 2, 0, 2);
        chained(plainThree("a and b or b and c or c and a"), 99, 2, 0, 3);
    }

    private static void chainPages() {
        Edge.says(Edge.TERMS, "CHAIN for the APPELLANT with so many pages for each APPEAL (the other SIDE BRIEFING nothing), from a ROUND: a "
            + "set for LEVEL 1, and, where that APPEAL is AFFIRMED, another one for LEVEL 2 behind it (by who appeals there)");
        chained(plainThree("a and b"), 1, 0, 0, 0);
        chained(plainThree("a and b"), 2, 2, 0, 3);
        RemandTree kept = lost("issue a anew;issue b anew;claim a and b;bars first 9 9 9;", 2, 5);
        chained(kept, 1, 0, 0, 0);
        chained(kept, 2, 2, 3, 3);
        chained(kept, 1, 0, 0, 0);
        RemandTree resting = Edge.of("issue a anew;issue b anew rests a;claim b;bars first 9 9 9;");
        Edge.rule(resting, 0, 1, 0);
        Edge.kept(resting, 1, 1, 5);
        chained(resting, 1, 0, 0, 0);
        chained(resting, 2, 2, 2, 2);
        RemandTree one = Edge.of("issue a anew;claim a;bars first 9 9 9;");
        Edge.kept(one, 0, 0, 5);
        chained(one, 1, 2, 1, 1);
        RemandTree silent = Edge.of("issue a anew;issue b anew;claim a and b;");
        Edge.kept(silent, 0, 0, 5);
        Edge.kept(silent, 1, 1, 5);
        chained(silent, 99, 2, 2, -1);
        RemandTree eight = Edge.of(EIGHT + "a and h;bars first 9 9 9;");
        for (int issue = 0; issue < 8; issue++) {
            Edge.rule(eight, issue, 1, 8);
        }
        chained(eight, 2, 2, 0, 129);
        chained(eight, 1, 0, 0, 0);
        chained(eight, 99, 2, 0, 129);
    }

    /** A set at level 1 that only serves to have that appeal affirmed takes pages, too. */
    private static void chainByAffirmed() {
        Edge.says(Edge.TERMS, "where that APPEAL is AFFIRMED, another one for LEVEL 2 behind it");
        RemandTree x = Edge.of("issue w anew;issue v anew rests w;issue z anew;issue y anew;claim not y and w and (v or z);"
            + "bars first 5 4 7;bars second 4 4 7;");
        Edge.kept(x, 0, 1, 5);
        Edge.rule(x, 1, 1, 0);
        Edge.kept(x, 2, 1, 4);
        Edge.kept(x, 3, 1, 5);
        Edge.is(x, 3, "preview", 5, 0, 0);
        Edge.is(x, 0, "preview", 13, 0, 0);
        chained(x, 2, 3, 1, -1);
        chained(x, 3, 2, 13, 5);
        chained(x, 2, 3, 1, -1);
    }

    private static void chainThatLeaks() {
        Edge.says(22, "CHAIN: what 0 how the last APPEAL of it would be (0, 2, 3)");
        for (int flaw = 7; flaw <= 8; flaw++) {
            RemandTree x = Edge.of("issue a choice;issue b choice;claim a or b;");
            Edge.kept(x, 0, 1, 5);
            Edge.kept(x, 1, 1, flaw);
            Edge.is(x, 1, "appeal", 1, 0);
            Edge.is(x, 2, "round");
            Edge.rule(x, 0, 1, 0);
            Edge.ask(x, "tell", 1, 1, 9);
            chained(x, 99, 0, 0, 0);
            Edge.is(x, true, "leak", 1);
            chained(x, 99, flaw == 8 ? new int[] {3, 0, 2} : new int[] {0, 0, 0});
        }
    }

    private static void chainRefused() {
        Edge.says(22, "IllegalArgumentException: the pages (0 to 99) are none; IllegalStateException: NOW is no ROUND, or no APPEAL can be "
            + "made; NoSuchElementException: another what.");
        Edge.refusedFor(Scenes::over, Edge.ARGUMENT, Edge.outside(100), "chain", Edge.IT, 0);
        Edge.refusedFor(Scenes::over, Edge.SUCH, Edge.outside(3), "chain", 99, Edge.IT);
        Edge.refused(Scenes::over, Edge.ARGUMENT, "chain", 100, 3);
        Edge.Made[] none = {Scenes::open, Scenes::round, Scenes::remanded, Scenes::affirmed, Scenes::otherwise, Scenes::reversed,
            Scenes::second, Scenes::fullRemanded};
        for (Edge.Made made : none) {
            Edge.refused(made, Edge.STATE, "chain", 0, 0);
            Edge.refused(made, Edge.STATE, "chain", 99, 3);
            Edge.refused(made, Edge.ARGUMENT, "chain", 100, 3);
        }
        int[] want = {3, 1, -1};
        for (int what = 0; what <= 2; what++) {
            Edge.leaves(Scenes::over, want[what], "chain", 99, what);
            Edge.leaves(Scenes::full, want[what], "chain", 1, what);
        }
    }

    private static void swing(RemandTree x, int many, int set) {
        Edge.is(x, many, "swing", false);
        Edge.is(x, set, "swing", true);
    }

    private static void swing() {
        Edge.says(Edge.TERMS, "SWING: the fewest DECIDED ISSUES by which, DECIDED for the other SIDE each, it is SURE that the other SIDE wins "
            + "than is SURE now; of several sets the least as bits.");
        swing(lostThree("a and b or c"), 1, 4);
        swing(lostThree("a or b or c"), 1, 1);
        swing(lostThree("b or c"), 1, 2);
        swing(lostThree("a and b or b and c or c and a"), 2, 3);
        swing(lostThree("a and c or b and c"), 2, 5);
        swing(lostThree("a and b and c"), 3, 7);
        RemandTree eight = lost(EIGHT + "a and b and c and d and e and f and g and h;", 8, 0);
        swing(eight, 8, 255);
        RemandTree zero = Edge.of("issue a anew;issue b anew;claim a or b;");
        Edge.rule(zero, 0, 0, 0);
        Edge.rule(zero, 1, 1, 0);
        swing(zero, 1, 1);
        Edge.says(23, "NONE: it is not SURE who wins, or there is none.");
        swing(new RemandTree(), -1, -1);
        swing(lostThree("a and not a"), -1, -1);
        swing(lostThree("a or not a"), -1, -1);
        swing(Edge.of("issue a anew;claim a;"), -1, -1);
        Edge.leaves(Scenes::open, -1, "swing", true);
        Edge.leaves(Scenes::remanded, -1, "swing", false);
        Edge.leaves(Scenes::over, 1, "swing", true);
        Edge.leaves(Scenes::second, 1, "swing", false);
    }

    private static void swingWithOpen() {
        Edge.says(23, "SWING: how many (set false), or which (bits)");
        RemandTree x = Edge.of("issue a anew;issue b anew;issue c anew;claim a and b or c;");
        Edge.rule(x, 2, 0, 0);
        swing(x, -1, -1);
        Edge.rule(x, 0, 0, 0);
        swing(x, 2, 5);
        Edge.rule(x, 1, 1, 0);
        swing(x, 1, 4);
        RemandTree y = Edge.of("issue a anew;issue b anew;issue c anew;claim a and b and c;");
        Edge.rule(y, 0, 1, 0);
        swing(y, -1, -1);
        RemandTree z = Edge.of("issue a anew;issue b anew;issue c anew;claim a or b and c;");
        Edge.rule(z, 0, 0, 0);
        Edge.rule(z, 1, 1, 0);
        swing(z, 1, 1);
        RemandTree w = Edge.of("issue a anew;issue b anew;issue c anew;claim a or b and c;");
        Edge.rule(w, 0, 0, 0);
        Edge.rule(w, 1, 0, 0);
        swing(w, 2, 3);
    }

    private static void fates() {
        Edge.says(Edge.TERMS, "FATES: how many of all sets of ISSUES BRIEFED so give each of these.");
        Edge.row(new RemandTree(), new int[] {1, 0, 0, 0}, "fates", Edge.IT);
        Edge.row(lost("issue a anew;claim a;", 1, 5), new int[] {1, 0, 1, 0}, "fates", Edge.IT);
        Edge.row(lost("issue a choice;claim a;", 1, 5), new int[] {1, 0, 0, 1}, "fates", Edge.IT);
        Edge.row(lost(EIGHT + "a;", 8, 5), new int[] {128, 0, 128, 0}, "fates", Edge.IT);
        Edge.row(lost(EIGHT + "a;", 8, 0), new int[] {256, 0, 0, 0}, "fates", Edge.IT);
        Edge.row(lost(EIGHT + "8 of (a,b,c,d,e,f,g,h);", 8, 5), new int[] {255, 0, 1, 0}, "fates", Edge.IT);
        Edge.row(lost(EIGHT + "1 of (a,b,c,d,e,f,g,h);", 8, 5), new int[] {1, 0, 255, 0}, "fates", Edge.IT);
        Edge.says(24, "FATES: how many sets give how (0, 2, 3; 0 for 1).");
        RemandTree x = Edge.of("issue a anew;issue b anew;claim a and b;");
        Edge.kept(x, 0, 0, 5);
        Edge.kept(x, 1, 1, 5);
        Edge.is(x, 1, "preview", 2, 1, 0);
        Edge.row(x, new int[] {2, 0, 2, 0}, "fates", Edge.IT);
        int[] want = {2, 0, 0, 6};
        for (int how = 0; how <= 3; how++) {
            Edge.leaves(Scenes::over, want[how], "fates", how);
            Edge.leaves(Scenes::affirmed, how == 0 ? 8 : 0, "fates", how);
        }
    }

    private static void fatesRefused() {
        Edge.says(24, "IllegalStateException: no APPEAL can be made; NoSuchElementException: how is not 0 to 3.");
        Edge.refusedFor(Scenes::over, Edge.SUCH, Edge.outside(4), "fates", Edge.IT);
        Edge.refusedFor(Scenes::full, Edge.SUCH, Edge.outside(4), "fates", Edge.IT);
        for (Edge.Made made : NO_APPEAL) {
            Edge.refused(made, Edge.STATE, "fates", 0);
            Edge.refused(made, Edge.STATE, "fates", 4);
            Edge.refused(made, Edge.STATE, "fates", -1);
        }
    }

    private static void harmless() {
        Edge.says(Edge.TERMS, "HARMLESS is an ISSUE that is DECIDED, if it is SURE who wins, and the same SIDE wins if it were DECIDED for the "
            + "other one.");
        Edge.is(new RemandTree(), 0, "harmless");
        Edge.is(Edge.of("issue a anew;claim a or not a;"), 0, "harmless");
        Edge.is(lostThree("a and not a"), 7, "harmless");
        Edge.is(lostThree("a"), 6, "harmless");
        Edge.is(lostThree("a or b or c"), 0, "harmless");
        Edge.is(lostThree("2 of (a,b,c)"), 7, "harmless");
        RemandTree x = Edge.of("issue a anew;issue b anew;issue c anew;claim a or b and c;");
        Edge.rule(x, 1, 0, 0);
        Edge.is(x, 0, "harmless");
        Edge.rule(x, 0, 0, 0);
        Edge.is(x, 2, "harmless");
        Edge.rule(x, 2, 0, 0);
        Edge.is(x, 7, "harmless");
        Edge.says(28, "HARMLESS ISSUES of NOW (bits).");
        Edge.leaves(Scenes::over, 4, "harmless");
        Edge.leaves(Scenes::remanded, 0, "harmless");
        Edge.leaves(Scenes::roundOver, 2, "harmless");
        RemandTree y = Scenes.roundOver();
        Edge.ask(y, "go", 0);
        Edge.is(y, 4, "harmless");
    }

    private static void pivotal() {
        Edge.says(Edge.TERMS, "PIVOTAL: one that is OPEN, if there are decisions of the others that are OPEN by which it tells who wins.");
        Edge.is(new RemandTree(), 0, "pivotal");
        Edge.is(Edge.of("issue a anew;claim a;"), 1, "pivotal");
        Edge.is(Edge.of("issue a anew;claim a or not a;"), 0, "pivotal");
        Edge.is(Edge.of(EIGHT + "a and b and c and d and e and f and g and h;"), 255, "pivotal");
        Edge.is(Edge.of(EIGHT + "h;"), 128, "pivotal");
        Edge.is(lostThree("a"), 0, "pivotal");
        RemandTree x = Edge.of("issue a anew;issue b anew;issue c anew;claim 2 of (a,b,c);");
        Edge.is(x, 7, "pivotal");
        Edge.rule(x, 0, 0, 0);
        Edge.is(x, 6, "pivotal");
        Edge.rule(x, 1, 0, 0);
        Edge.is(x, 0, "pivotal");
        RemandTree shut = Edge.of("issue a anew;issue b anew;claim a and b;");
        Edge.rule(shut, 0, 1, 0);
        Edge.is(shut, 0, "pivotal");
        Edge.says(29, "PIVOTAL ISSUES of NOW (bits).");
        Edge.leaves(Scenes::open, 6, "pivotal");
        Edge.leaves(Scenes::remanded, 1, "pivotal");
        Edge.leaves(Scenes::over, 0, "pivotal");
    }

    private static void ways() {
        Edge.says(Edge.TERMS, "WAYS of a SIDE: by how many decisions of all that are OPEN it wins.");
        int[][] want = {{128, 128}, {256, 0}, {0, 256}, {255, 1}, {1, 255}};
        String[] claims = {"h", "0 of (a)", "2 of (a)", "1 of (a,b,c,d,e,f,g,h)", "8 of (a,b,c,d,e,f,g,h)"};
        for (int k = 0; k < claims.length; k++) {
            Edge.row(Edge.of(EIGHT + claims[k] + ";"), want[k], "ways", Edge.IT);
        }
        Edge.row(lostThree("a"), new int[] {0, 1}, "ways", Edge.IT);
        Edge.row(lostThree("not a"), new int[] {1, 0}, "ways", Edge.IT);
        Edge.says(30, "WAYS. IllegalArgumentException: the SIDE is none.");
        Edge.refusedFor(Scenes::open, Edge.ARGUMENT, Edge.outside(2), "ways", Edge.IT);
        Edge.refusedFor(Scenes::bare, Edge.ARGUMENT, Edge.outside(2), "ways", Edge.IT);
        Edge.leaves(Scenes::open, 1, "ways", 0);
        Edge.leaves(Scenes::open, 3, "ways", 1);
        Edge.leaves(Scenes::remanded, 1, "ways", 0);
        Edge.leaves(Scenes::over, 0, "ways", 0);
        Edge.leaves(Scenes::over, 1, "ways", 1);
    }
}
