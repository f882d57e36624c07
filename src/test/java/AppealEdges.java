/** Boundary cases of promises 13 to 16, 18 and 19, and of what Terms says of NODES and APPEALS. */
final class AppealEdges {
    private static final String[] STANDARDS = {"anew", "choice", "clear"};

    private AppealEdges() {
    }

    static void run() {
        fromWhere();
        appellant();
        appealArguments();
        appealFull();
        nodesAndNow();
        round();
        go();
        against();
        settledAtFirst();
        settledAtSecond();
        keptAtFirst();
        keptAtSecond();
        turnedIsHeardAtSecond();
        barsAtFirst();
        barsAtSecond();
        turned();
        opened();
        opensWhatRests();
        affirmed();
        affirmedOtherwise();
        reversedOrRemanded();
        asAhead();
        settledByAppeal();
        settledBySecond();
        leaksNoMore();
        nobodyKeeps();
        preview();
        why();
        due();
    }

    /** One issue of a standard, ruled for side 1. */
    private static RemandTree one(int standard, int flaw, boolean keeps) {
        RemandTree x = Edge.of("issue a " + STANDARDS[standard] + ";claim a;");
        Edge.rule(x, 0, 1, flaw);
        if (keeps) {
            Edge.is(x, true, "keep", 0, 0);
        }
        return x;
    }

    /** Side 1 wins by b; a is for 0; all are kept. */
    private static RemandTree lostByZero() {
        RemandTree x = Edge.of("issue a anew;issue b anew;issue c choice;claim a and b;");
        Edge.kept(x, 0, 0, 3);
        Edge.kept(x, 1, 1, 5);
        Edge.kept(x, 2, 1, 6);
        return x;
    }

    /** Now is node 2, a round for a alone; b is settled, for side 1, with a flaw. */
    private static RemandTree settledRound(int flaw, boolean keeps) {
        RemandTree x = Edge.of("issue a choice;issue b choice;claim a or b;");
        Edge.kept(x, 0, 1, 5);
        Edge.rule(x, 1, 1, flaw);
        if (keeps) {
            Edge.is(x, true, "keep", 1, 0);
        }
        Edge.is(x, 1, "appeal", 1, 0);
        Edge.is(x, 2, "round");
        Edge.is(x, 2, "node", 2, 5);
        return x;
    }

    private static void fromWhere() {
        Edge.says(Edge.TERMS, "An APPEAL is made from a ROUND that is OVER (LEVEL 1) or an APPEAL to LEVEL 1 that was not REMANDED "
            + "(LEVEL 2), if it is SURE there who wins");
        Edge.Made[] may = {Scenes::bare, Scenes::over, Scenes::roundOver, Scenes::affirmed, Scenes::otherwise, Scenes::reversed};
        int[] levels = {1, 1, 1, 2, 2, 2};
        for (int k = 0; k < may.length; k++) {
            RemandTree x = may[k].make();
            int node = Edge.number(x, "count", 1);
            Edge.is(x, node, "appeal", 0, 0);
            Edge.is(x, levels[k], "node", node, 0);
        }
        Edge.says(13, "IllegalStateException: none can be made from NOW, or there are 40 NODES.");
        Edge.Made[] mayNot = {Scenes::open, Scenes::round, Scenes::remanded, Scenes::second};
        for (Edge.Made made : mayNot) {
            Edge.refused(made, Edge.STATE, "appeal", 0, 0);
        }
        RemandTree sure = Edge.of("issue a anew;issue b anew;claim a or b;");
        Edge.rule(sure, 0, 0, 0);
        Edge.is(sure, 0, "node", 0, 7);
        Edge.is(sure, Edge.STATE, "appeal", 0, 0);
        Edge.rule(sure, 1, 0, 0);
        Edge.is(sure, 1, "appeal", 0, 0);
        for (int how = 2; how <= 3; how++) {
            RemandTree x = one(how == 2 ? 0 : 1, 5, true);
            Edge.ask(x, "tell", 1, 0, 9);
            Edge.ask(x, "tell", 1, 1, 9);
            Edge.is(x, 1, "appeal", 1, 0);
            Edge.is(x, 2, "appeal", 1, 0);
            Edge.is(x, how, "node", 2, 2);
            Edge.is(x, Edge.STATE, "appeal", 0, 0);
        }
    }

    private static void appellant() {
        Edge.says(Edge.TERMS, "the other SIDE appeals (the APPELLANT)");
        for (int winner = 0; winner <= 1; winner++) {
            RemandTree x = Edge.of("issue a anew;claim a;");
            Edge.kept(x, 0, winner, 5);
            Edge.is(x, 1, "appeal", winner == 1 ? 1 : 0, winner == 0 ? 1 : 0);
            Edge.is(x, 1 - winner, "node", 1, 8);
            Edge.is(x, 2, "node", 1, 2);
            Edge.is(x, 2, "appeal", 0, 0);
            Edge.is(x, winner, "node", 2, 8);
        }
        RemandTree x = Edge.of("issue a anew;claim a;");
        Edge.kept(x, 0, 1, 5);
        Edge.is(x, 1, "appeal", 0, 1);
        Edge.is(x, 0, "node", 1, 8);
        Edge.is(x, 0, "node", 1, 2);
    }

    private static void appealArguments() {
        Edge.says(13, "IllegalArgumentException: a set is none");
        int[] none = {Edge.MIN, -8, -1, 8, 15, 256, Edge.MAX};
        Edge.refusedFor(Scenes::over, Edge.ARGUMENT, none, "appeal", Edge.IT, 0);
        Edge.refusedFor(Scenes::over, Edge.ARGUMENT, none, "appeal", 0, Edge.IT);
        Edge.refusedFor(Scenes::bare, Edge.ARGUMENT, Edge.outside(1), "appeal", Edge.IT, 0);
        Edge.refused(Scenes::open, Edge.ARGUMENT, "appeal", 8, 0);
        Edge.refused(Scenes::second, Edge.ARGUMENT, "appeal", 0, 8);
        Edge.refused(Scenes::full, Edge.ARGUMENT, "appeal", 2, 0);
        RemandTree x = Scenes.over();
        Edge.is(x, 1, "appeal", 7, 7);
        Edge.is(x, 7, "node", 1, 10);
        Edge.is(x, 7, "node", 1, 11);
        Edge.ask(x, "go", 0);
        Edge.is(x, 2, "appeal", 0, 0);
        Edge.is(x, 0, "node", 2, 10);
        Edge.is(x, 0, "node", 2, 11);
        RemandTree eight = Edge.of("issue a anew;issue b anew;issue c anew;issue d anew;issue e anew;issue f anew;issue g anew;"
            + "issue h anew;claim a;");
        for (int issue = 0; issue < 8; issue++) {
            Edge.kept(eight, issue, 1, 5);
        }
        Edge.is(eight, Edge.ARGUMENT, "appeal", 256, 0);
        Edge.is(eight, 1, "appeal", 255, 255);
        Edge.is(eight, 255, "node", 1, 9);
        Edge.is(eight, 255, "node", 1, 5);
    }

    private static void appealFull() {
        Edge.says(13, "or there are 40 NODES.");
        Edge.refused(Scenes::full, Edge.STATE, "appeal", 1, 0);
        Edge.refused(Scenes::full, Edge.STATE, "appeal", 0, 0);
        RemandTree x = Scenes.almostFull();
        Edge.is(x, 38, "go", 0);
        Edge.is(x, 39, "appeal", 1, 0);
        Edge.is(x, 40, "count", 1);
        Edge.is(x, 39, "go", 0);
        Edge.is(x, Edge.STATE, "appeal", 1, 0);
        Edge.is(x, 40, "count", 1);
        Edge.is(x, 0, "count", 2);
        Edge.is(x, 2, "read");
        Edge.is(x, 1, "count", 1);
        Edge.rule(x, 0, 0, 0);
        Edge.rule(x, 1, 0, 0);
        Edge.is(x, 1, "appeal", 0, 0);
    }

    private static void nodesAndNow() {
        Edge.says(Edge.TERMS, "NODES (at most 40, numbered as they come; NODE 0 is the beginning)");
        Edge.says(Edge.TERMS, "One NODE is NOW; NODES that come have it as the one ahead, and are NOW then.");
        RemandTree x = Scenes.over();
        Edge.is(x, 0, "count", 2);
        int[] from = {0, 0, 2, 0, 4};
        for (int k = 0; k < from.length; k++) {
            Edge.ask(x, "go", from[k]);
            Edge.is(x, k + 1, "appeal", 0, 0);
            Edge.is(x, k + 1, "count", 2);
            Edge.is(x, k + 2, "count", 1);
            Edge.is(x, from[k], "node", k + 1, 1);
        }
        RemandTree y = Scenes.remanded();
        Edge.is(y, 2, "round");
        Edge.is(y, 2, "count", 2);
        Edge.is(y, 1, "node", 2, 1);
    }

    private static void round() {
        Edge.says(14, "IllegalStateException: NOW is none such, or there are 40 NODES.");
        Edge.Made[] none = {Scenes::bare, Scenes::open, Scenes::over, Scenes::round, Scenes::roundOver, Scenes::affirmed,
            Scenes::otherwise, Scenes::reversed, Scenes::second, Scenes::full, Scenes::fullRemanded};
        for (Edge.Made made : none) {
            Edge.refused(made, Edge.STATE, "round");
        }
        Edge.says(14, "A ROUND after an APPEAL that was REMANDED: its NODE.");
        RemandTree x = Scenes.almostFull();
        Edge.is(x, 39, "round");
        Edge.is(x, 40, "count", 1);
        Edge.row(x, new int[] {0, 38, -1, 1, 1, 0, 0, -1, -1, 0, 0, 0, 0, 0, 2}, "node", 39, Edge.IT);
        Edge.is(x, 0, "rule", 0, 1, 5);
        Edge.is(x, Edge.STATE, "appeal", 0, 0);
        Edge.is(x, 39, "go", 38);
        Edge.is(x, Edge.STATE, "round");
        RemandTree twice = Scenes.remanded();
        Edge.is(twice, 2, "round");
        Edge.is(twice, 2, "go", 1);
        Edge.is(twice, 3, "round");
        Edge.is(twice, 1, "node", 3, 1);
        RemandTree second = one(1, 5, true);
        Edge.ask(second, "tell", 1, 1, 9);
        Edge.is(second, 1, "appeal", 1, 0);
        Edge.is(second, 2, "appeal", 1, 0);
        Edge.is(second, 3, "round");
        Edge.is(second, 1, "node", 3, 3);
    }

    private static void go() {
        Edge.says(15, "Another NODE is NOW: which one was.");
        RemandTree x = Scenes.second();
        Edge.is(x, 4, "go", 4);
        Edge.is(x, 4, "go", 0);
        Edge.is(x, 0, "go", 0);
        Edge.is(x, 0, "go", 4);
        Edge.is(x, 4, "count", 2);
        Edge.refusedFor(Scenes::second, Edge.INDEX, Edge.outside(5), "go", Edge.IT);
        Edge.refusedFor(Scenes::bare, Edge.INDEX, Edge.outside(1), "go", Edge.IT);
        Edge.refusedFor(Scenes::full, Edge.INDEX, Edge.outside(40), "go", Edge.IT);
        RemandTree full = Scenes.full();
        Edge.is(full, 0, "go", 39);
        Edge.is(full, 39, "go", 0);
    }

    private static void against() {
        Edge.says(Edge.TERMS, "An ISSUE that a SIDE BRIEFS is HEARD, if it is DECIDED against that SIDE");
        RemandTree x = Scenes.over();
        Edge.is(x, 0, "preview", 0, 0, 2);
        Edge.is(x, 3, "preview", 7, 0, 2);
        Edge.is(x, 0, "preview", 4, 0, 2);
        Edge.is(x, 0, "preview", 0, 7, 2);
        Edge.is(x, 5, "preview", 1, 7, 2);
        Edge.is(x, 1, "preview", 1, 3, 2);
        for (int issue = 0; issue < 3; issue++) {
            Edge.is(x, issue < 2 ? 0 : 1, "why", issue, 0);
            Edge.is(x, issue < 2 ? 1 : 0, "why", issue, 1);
        }
    }

    private static void settledAtFirst() {
        Edge.says(Edge.TERMS, "it is not SETTLED (at LEVEL 2: was not ahead of the APPEAL to LEVEL 1), or LEAKS, or its FLAW is 9");
        for (int flaw = 0; flaw <= 9; flaw++) {
            for (int kept = 0; kept <= 1; kept++) {
                RemandTree x = settledRound(flaw, kept == 1);
                Edge.rule(x, 0, 1, 0);
                Edge.is(x, flaw == 9 ? 0 : 2, "why", 1, 0);
                Edge.is(x, 1, "why", 1, 1);
                Edge.is(x, flaw == 9 ? 2 : 0, "due", 0, false);
                Edge.is(x, true, "leak", 1);
                Edge.is(x, kept == 1 || flaw >= 8 ? 0 : 3, "why", 1, 0);
            }
        }
    }

    private static void settledAtSecond() {
        Edge.says(Edge.TERMS, "(at LEVEL 2: was not ahead of the APPEAL to LEVEL 1), or LEAKS, or its FLAW is 9");
        for (int flaw = 0; flaw <= 9; flaw++) {
            RemandTree x = settledRound(flaw, true);
            Edge.kept(x, 0, 1, 3);
            Edge.is(x, 3, "appeal", 1, 0);
            Edge.is(x, 0, "node", 3, 2);
            Edge.is(x, 3, "node", 3, 5);
            Edge.is(x, 0, "why", 0, 0);
            Edge.is(x, flaw == 9 ? 0 : 2, "why", 1, 0);
            Edge.ask(x, "go", 2);
            Edge.is(x, true, "leak", 1);
            Edge.is(x, 4, "appeal", 1, 0);
            Edge.is(x, 2, "node", 4, 6);
            Edge.is(x, flaw >= 8 ? 0 : 3, "why", 1, 0);
            Edge.ask(x, "go", 3);
            Edge.is(x, flaw == 9 ? 0 : 2, "why", 1, 0);
            Edge.ask(x, "go", 2);
            Edge.ask(x, "tell", 1, 1, 9);
            Edge.is(x, 5, "appeal", 2, 0);
            Edge.is(x, flaw == 9 ? 3 : 0, "node", 5, 2);
            if (flaw < 9) {
                Edge.is(x, 2, "why", 1, 0);
            }
        }
    }

    private static void keptAtFirst() {
        Edge.says(Edge.TERMS, "that SIDE KEEPS it (at LEVEL 2 also: and BRIEFED it at LEVEL 1 ahead; or it was TURNED there), or its "
            + "FLAW is 8 or more (PLAIN).");
        for (int flaw = 0; flaw <= 9; flaw++) {
            Edge.is(one(0, flaw, true), 0, "why", 0, 0);
            Edge.is(one(0, flaw, false), flaw >= 8 ? 0 : 3, "why", 0, 0);
            Edge.is(one(0, flaw, false), flaw >= 8 ? 1 : 0, "preview", 1, 0, 2);
        }
    }

    private static void keptAtSecond() {
        Edge.says(Edge.TERMS, "(at LEVEL 2 also: and BRIEFED it at LEVEL 1 ahead; or it was TURNED there)");
        for (int flaw = 0; flaw <= 9; flaw++) {
            for (int way = 0; way < 6; way++) {
                boolean keeps = way % 2 == 0;
                boolean briefs = way / 2 == 1;
                if (flaw == 9 && briefs) {
                    continue;
                }
                RemandTree x = one(2, flaw, keeps);
                Edge.ask(x, "tell", 1, 2, 9);
                Edge.is(x, 1, "appeal", briefs ? 1 : 0, way / 2 == 2 ? 1 : 0);
                Edge.is(x, 0, "node", 1, 2);
                Edge.is(x, keeps && briefs || flaw >= 8 ? 0 : 3, "why", 0, 0);
            }
        }
    }

    private static void turnedIsHeardAtSecond() {
        Edge.says(Edge.TERMS, "or it was TURNED there");
        for (int flaw = 0; flaw <= 9; flaw++) {
            RemandTree x = one(0, flaw, true);
            Edge.ask(x, "tell", 1, 0, 0);
            Edge.is(x, 1, "appeal", 1, 0);
            Edge.is(x, 2, "node", 1, 2);
            Edge.is(x, 0, "node", 1, 13);
            Edge.is(x, 0, "why", 0, 1);
            Edge.is(x, 1, "why", 0, 0);
            Edge.ask(x, "tell", 2, 0, 9 - flaw);
            Edge.is(x, 2, "preview", 0, 1, 0);
        }
    }

    private static void barsAtFirst() {
        Edge.says(Edge.TERMS, "ERRORS are those HEARD whose FLAW is the BAR of LEVEL and STANDARD or more.");
        for (int standard = 0; standard <= 2; standard++) {
            for (int flaw = 0; flaw <= 9; flaw++) {
                RemandTree x = one(standard, flaw, true);
                for (int bar = 0; bar <= 9; bar++) {
                    Edge.ask(x, "tell", 1, standard, bar);
                    Edge.ask(x, "tell", 2, standard, 9 - bar);
                    Edge.ask(x, "tell", 1, (standard + 1) % 3, 9 - bar);
                    Edge.is(x, flaw >= bar ? 1 : 0, "due", 0, true);
                    Edge.is(x, flaw >= bar ? 1 : 0, "preview", 1, 0, 1);
                    Edge.is(x, 1, "due", 0, false);
                    Edge.is(x, 1, "preview", 1, 0, 2);
                }
            }
        }
        RemandTree unheard = one(0, 7, false);
        Edge.is(unheard, 0, "due", 0, true);
        Edge.is(unheard, 0, "preview", 1, 0, 1);
    }

    private static void barsAtSecond() {
        Edge.says(Edge.TERMS, "whose FLAW is the BAR of LEVEL and STANDARD or more.");
        for (int standard = 0; standard <= 2; standard++) {
            for (int flaw = 0; flaw <= 8; flaw++) {
                RemandTree x = one(standard, flaw, true);
                Edge.ask(x, "tell", 1, standard, 9);
                Edge.is(x, 1, "appeal", 1, 0);
                for (int bar = 0; bar <= 9; bar++) {
                    Edge.ask(x, "tell", 2, standard, bar);
                    Edge.ask(x, "tell", 1, standard, 9 - bar);
                    Edge.is(x, flaw >= bar ? 1 : 0, "due", 0, true);
                    Edge.is(x, flaw >= bar ? 1 : 0, "preview", 1, 0, 1);
                }
            }
        }
    }

    private static void turned() {
        Edge.says(Edge.TERMS, "ERRORS of STANDARD anew are TURNED: DECIDED for the other SIDE, with 9 less their FLAW as their FLAW");
        for (int side = 0; side <= 1; side++) {
            for (int flaw = 0; flaw <= 9; flaw++) {
                RemandTree x = Edge.of("issue a anew;claim a;bars first 0 9 9;");
                Edge.kept(x, 0, side, flaw);
                Edge.is(x, 1, "preview", 1, 1, 3);
                Edge.is(x, 0, "preview", 1, 1, 4);
                Edge.is(x, 1, "appeal", 1, 1);
                Edge.row(x, new int[] {1 - side, 9 - flaw, 1, 1}, "decided", 1, 0, Edge.IT);
                Edge.row(x, new int[] {side, flaw, 0, 0}, "decided", 0, 0, Edge.IT);
                Edge.is(x, 1, "node", 1, 9);
                Edge.is(x, 2, "node", 1, 2);
            }
        }
    }

    private static void opened() {
        Edge.says(Edge.TERMS, "other ERRORS are OPEN");
        for (int standard = 1; standard <= 2; standard++) {
            for (int flaw = 0; flaw <= 9; flaw += 9) {
                RemandTree x = one(standard, flaw, true);
                Edge.ask(x, "tell", 1, standard, 0);
                Edge.row(x, new int[] {3, 1, 1, 0, 1}, "preview", 1, 0, Edge.IT);
                Edge.is(x, 1, "appeal", 1, 0);
                Edge.row(x, new int[] {-1, -1}, "decided", 1, 0, Edge.IT);
                Edge.is(x, 0, "node", 1, 9);
                Edge.is(x, 1, "node", 1, 4);
            }
        }
    }

    private static void opensWhatRests() {
        Edge.says(Edge.TERMS, "what RESTS on some that is TURNED or OPEN is OPEN, too, and so on (also what was TURNED).");
        RemandTree x = Edge.of("issue a anew;issue b anew rests a;issue c clear rests b;issue d anew rests c;issue e anew;"
            + "claim a or b or c;");
        for (int issue = 0; issue < 5; issue++) {
            Edge.kept(x, issue, 1, 7);
        }
        Edge.row(x, new int[] {2, 1, 1, 1, 14}, "preview", 1, 0, Edge.IT);
        Edge.row(x, new int[] {2, 2, 2, 2, 12}, "preview", 2, 0, Edge.IT);
        Edge.row(x, new int[] {3, 4, 4, 0, 12}, "preview", 4, 0, Edge.IT);
        Edge.row(x, new int[] {0, 8, 8, 0, 0}, "preview", 8, 0, Edge.IT);
        Edge.row(x, new int[] {3, 12, 12, 0, 12}, "preview", 12, 0, Edge.IT);
        Edge.row(x, new int[] {2, 3, 3, 1, 14}, "preview", 3, 0, Edge.IT);
        Edge.row(x, new int[] {3, 20, 20, 16, 12}, "preview", 20, 0, Edge.IT);
        Edge.row(x, new int[] {2, 31, 31, 17, 14}, "preview", 31, 0, Edge.IT);
        Edge.is(x, 1, "appeal", 31, 0);
        Edge.is(x, 17, "node", 1, 9);
        Edge.is(x, 14, "node", 1, 4);
        Edge.is(x, 17, "node", 1, 5);
        RemandTree two = Edge.of("issue a choice;issue b anew;issue c anew rests a,b;claim c;");
        for (int issue = 0; issue < 3; issue++) {
            Edge.kept(two, issue, 1, 7);
        }
        Edge.is(two, 5, "preview", 1, 0, 4);
        Edge.is(two, 4, "preview", 2, 0, 4);
        Edge.is(two, 0, "preview", 4, 0, 4);
        Edge.is(two, 5, "preview", 7, 0, 4);
    }

    private static void affirmed() {
        Edge.says(Edge.TERMS, "if it is SURE that the same SIDE wins as ahead, the APPEAL is AFFIRMED (0).");
        RemandTree x = Edge.of("issue a choice;issue b choice;claim a or b;");
        Edge.kept(x, 0, 0, 5);
        Edge.kept(x, 1, 0, 5);
        Edge.row(x, new int[] {0, 0, 0, 0, 0}, "preview", 0, 0, Edge.IT);
        Edge.row(x, new int[] {0, 1, 1, 0, 0}, "preview", 0, 1, Edge.IT);
        Edge.row(x, new int[] {0, 2, 2, 0, 0}, "preview", 3, 2, Edge.IT);
        Edge.row(x, new int[] {3, 3, 3, 0, 3}, "preview", 0, 3, Edge.IT);
        RemandTree y = Edge.of("issue a anew;issue b choice;claim a or not b;");
        Edge.kept(y, 0, 0, 5);
        Edge.kept(y, 1, 0, 5);
        Edge.row(y, new int[] {0, 2, 2, 0, 0}, "preview", 0, 2, Edge.IT);
        Edge.row(y, new int[] {2, 1, 1, 1, 0}, "preview", 0, 1, Edge.IT);
        Edge.row(y, new int[] {3, 3, 3, 1, 2}, "preview", 0, 3, Edge.IT);
    }

    private static void affirmedOtherwise() {
        Edge.says(Edge.TERMS, "Else those that the other SIDE has HEARD count, too: if it is SURE then that the same SIDE wins: "
            + "AFFIRMED all the same (1)");
        RemandTree x = lostByZero();
        Edge.row(x, new int[] {2, 2, 2, 2, 0}, "preview", 2, 0, Edge.IT);
        Edge.row(x, new int[] {1, 3, 3, 0, 0}, "preview", 2, 1, Edge.IT);
        Edge.row(x, new int[] {0, 4, 4, 0, 0}, "preview", 4, 1, Edge.IT);
        Edge.row(x, new int[] {1, 7, 7, 0, 0}, "preview", 6, 1, Edge.IT);
        Edge.ask(x, "tell", 1, 0, 4);
        Edge.row(x, new int[] {2, 2, 3, 2, 0}, "preview", 2, 1, Edge.IT);
        RemandTree open = Edge.of("issue a choice;issue b anew;claim a and b;");
        Edge.kept(open, 0, 0, 5);
        Edge.kept(open, 1, 1, 5);
        Edge.row(open, new int[] {3, 3, 3, 2, 1}, "preview", 2, 1, Edge.IT);
    }

    private static void reversedOrRemanded() {
        Edge.says(Edge.TERMS, "if it is SURE that the other one wins: REVERSED (2); else REMANDED (3).");
        RemandTree x = Edge.of("issue a choice;issue b anew;issue c choice;claim a or b;");
        for (int issue = 0; issue < 3; issue++) {
            Edge.kept(x, issue, 1, 5);
        }
        Edge.row(x, new int[] {3, 1, 1, 0, 1}, "preview", 1, 0, Edge.IT);
        Edge.row(x, new int[] {2, 2, 2, 2, 0}, "preview", 2, 0, Edge.IT);
        Edge.row(x, new int[] {2, 3, 3, 2, 1}, "preview", 3, 0, Edge.IT);
        Edge.row(x, new int[] {2, 7, 7, 2, 5}, "preview", 7, 0, Edge.IT);
        Edge.row(x, new int[] {0, 4, 4, 0, 0}, "preview", 4, 0, Edge.IT);
        RemandTree crossed = Edge.of("issue a anew;issue b anew;claim b;");
        Edge.kept(crossed, 0, 0, 5);
        Edge.kept(crossed, 1, 1, 5);
        Edge.row(crossed, new int[] {2, 3, 3, 3, 0}, "preview", 2, 1, Edge.IT);
    }

    private static void asAhead() {
        Edge.says(Edge.TERMS, "AFFIRMED: all is DECIDED as ahead. Else as THEN.");
        for (int cross = 0; cross <= 4; cross += 4) {
            RemandTree x = Scenes.over();
            Edge.is(x, 1, "appeal", cross == 0 ? 0 : 1, cross);
            Edge.is(x, cross == 0 ? 0 : 1, "node", 1, 2);
            Edge.is(x, 0, "unlike", 0, 1);
            Edge.is(x, 0, "node", 1, 9);
            Edge.is(x, 0, "node", 1, 4);
            Edge.is(x, 3, "node", 1, 12);
            Edge.is(x, 4, "node", 1, 13);
            for (int issue = 0; issue < 3; issue++) {
                Edge.row(x, new int[] {issue < 2 ? 1 : 0, 5, 0, 0}, "decided", 1, issue, Edge.IT);
            }
        }
        RemandTree left = Edge.of("issue a anew;issue b anew rests a;claim a;");
        Edge.kept(left, 0, 1, 3);
        Edge.rule(left, 1, 0, 0);
        Edge.is(left, 1, "appeal", 1, 0);
        Edge.is(left, 2, "node", 1, 4);
        Edge.row(left, new int[] {0, 0, 0, 0, 2}, "preview", 0, 0, Edge.IT);
        Edge.is(left, 2, "appeal", 0, 0);
        Edge.is(left, 0, "unlike", 1, 2);
        Edge.is(left, 2, "node", 2, 3);
    }

    private static void settledByAppeal() {
        Edge.says(Edge.TERMS, "SETTLED are from now on, but for those that are OPEN: what was SETTLED ahead, all that were HEARD (of the "
            + "SIDE that CROSSES only where they counted, so not with AFFIRMED 0), and, at LEVEL 1, all that were DECIDED "
            + "against the APPELLANT ahead, BRIEFED or not.");
        int[][] briefs = {{0, 0, 0, 3}, {0, 4, 0, 3}, {7, 7, 3, 2}, {1, 4, 1, 7}, {1, 0, 3, 2}, {3, 0, 3, 2}, {2, 0, 3, 3}};
        for (int[] row : briefs) {
            RemandTree x = Scenes.over();
            Edge.is(x, 1, "appeal", row[0], row[1]);
            Edge.is(x, row[2], "node", 1, 2);
            Edge.is(x, row[3], "node", 1, 5);
        }
        RemandTree later = Scenes.roundOver();
        Edge.is(later, 3, "appeal", 0, 0);
        Edge.is(later, 7, "node", 3, 5);
        RemandTree again = settledRound(5, true);
        Edge.rule(again, 0, 0, 5);
        Edge.is(again, 3, "appeal", 0, 0);
        Edge.is(again, 3, "node", 3, 5);
    }

    private static void settledBySecond() {
        Edge.says(Edge.TERMS, "and, at LEVEL 1, all that were DECIDED against the APPELLANT ahead, BRIEFED or not.");
        RemandTree x = lostByZero();
        Edge.is(x, 1, "appeal", 2, 0);
        Edge.is(x, 6, "node", 1, 5);
        Edge.is(x, 2, "appeal", 0, 0);
        Edge.is(x, 6, "node", 2, 5);
        RemandTree y = lostByZero();
        Edge.ask(y, "tell", 1, 0, 9);
        Edge.is(y, 1, "appeal", 2, 1);
        Edge.is(y, 0, "node", 1, 2);
        Edge.is(y, 6, "node", 1, 5);
        Edge.is(y, 2, "appeal", 0, 1);
        Edge.is(y, 0, "node", 2, 2);
        Edge.is(y, 6, "node", 2, 5);
        Edge.ask(y, "go", 1);
        Edge.is(y, 3, "appeal", 2, 1);
        Edge.is(y, 1, "node", 3, 2);
        Edge.is(y, 7, "node", 3, 5);
    }

    private static void leaksNoMore() {
        Edge.says(Edge.TERMS, "What LEAKS and was HEARD so LEAKS no more.");
        RemandTree x = settledRound(3, true);
        Edge.rule(x, 0, 1, 0);
        Edge.is(x, true, "leak", 1);
        int[][] briefs = {{0, 0, 2}, {1, 0, 2}, {0, 2, 2}, {2, 0, 0}, {3, 3, 0}};
        for (int k = 0; k < briefs.length; k++) {
            Edge.ask(x, "go", 2);
            Edge.is(x, 3 + k, "appeal", briefs[k][0], briefs[k][1]);
            Edge.is(x, briefs[k][2], "node", 3 + k, 6);
            Edge.is(x, 2, "node", 2, 6);
            Edge.is(x, 3, "node", 3 + k, 5);
        }
        RemandTree unkept = settledRound(3, false);
        Edge.rule(unkept, 0, 1, 0);
        Edge.is(unkept, true, "leak", 1);
        Edge.is(unkept, 3, "appeal", 2, 0);
        Edge.is(unkept, 2, "node", 3, 6);
        RemandTree cross = Edge.of("issue a choice;issue b choice;claim a;");
        Edge.kept(cross, 0, 1, 5);
        Edge.kept(cross, 1, 1, 3);
        Edge.is(cross, 1, "appeal", 1, 0);
        Edge.is(cross, 2, "round");
        Edge.kept(cross, 0, 0, 5);
        Edge.is(cross, true, "leak", 1);
        Edge.is(cross, 3, "appeal", 2, 0);
        Edge.is(cross, 0, "node", 3, 2);
        Edge.is(cross, 2, "node", 3, 6);
        Edge.ask(cross, "go", 2);
        Edge.is(cross, 4, "appeal", 2, 1);
        Edge.is(cross, 3, "node", 4, 2);
        Edge.is(cross, 0, "node", 4, 6);
        Edge.is(cross, 2, "node", 4, 5);
    }

    private static void nobodyKeeps() {
        Edge.says(Edge.TERMS, "Nobody KEEPS what is TURNED or OPEN.");
        RemandTree x = lostByZero();
        Edge.is(x, 1, "appeal", 2, 0);
        Edge.is(x, 4, "node", 1, 12);
        Edge.is(x, 1, "node", 1, 13);
        Edge.is(x, 6, "node", 0, 12);
        RemandTree y = Edge.of("issue a choice;issue b anew rests a;issue c anew rests b;issue d anew;claim b;");
        Edge.kept(y, 0, 1, 5);
        Edge.kept(y, 1, 1, 5);
        Edge.kept(y, 2, 0, 5);
        Edge.kept(y, 3, 0, 5);
        Edge.is(y, 1, "appeal", 1, 0);
        Edge.is(y, 7, "node", 1, 4);
        Edge.is(y, 0, "node", 1, 12);
        Edge.is(y, 8, "node", 1, 13);
        Edge.is(y, 2, "round");
        Edge.is(y, 0, "node", 2, 12);
        Edge.is(y, 8, "node", 2, 13);
    }

    private static void preview() {
        Edge.says(16, "PREVIEW what 0 how it would be (0 to 3), 1 ERRORS that count (bits), 2 ISSUES HEARD that count, 3 TURNED (0, if "
            + "AFFIRMED), 4 OPEN then.");
        int[] want = {3, 3, 3, 2, 5};
        for (int what = 0; what <= 4; what++) {
            Edge.leaves(Scenes::over, want[what], "preview", 7, 0, what);
        }
        Edge.says(16, "Exceptions as of appeal() (not for 40 NODES), then NoSuchElementException: another what.");
        Edge.leaves(Scenes::full, 3, "preview", 1, 0, 0);
        Edge.refused(Scenes::full, Edge.SUCH, "preview", 1, 0, 5);
        Edge.refusedFor(Scenes::over, Edge.SUCH, Edge.outside(5), "preview", 0, 0, Edge.IT);
        Edge.refusedFor(Scenes::over, Edge.ARGUMENT, Edge.outside(8), "preview", Edge.IT, 0, 0);
        Edge.refusedFor(Scenes::over, Edge.ARGUMENT, Edge.outside(8), "preview", 0, Edge.IT, 5);
        Edge.Made[] none = {Scenes::open, Scenes::round, Scenes::remanded, Scenes::second, Scenes::fullRemanded};
        for (Edge.Made made : none) {
            Edge.refused(made, Edge.STATE, "preview", 0, 0, 0);
            Edge.refused(made, Edge.STATE, "preview", 0, 0, 5);
            Edge.refused(made, Edge.ARGUMENT, "preview", 8, 0, 5);
        }
    }

    private static void why() {
        Edge.says(Edge.TERMS, "the first of: 1 it is not DECIDED against that SIDE, 2 it is SETTLED, as told above, and nothing lets it be "
            + "HEARD all the same, 3 not KEPT (and so on, as told above); 0: it would be.");
        RemandTree x = settledRound(7, false);
        Edge.rule(x, 0, 1, 0);
        Edge.is(x, 1, "why", 1, 1);
        Edge.is(x, 2, "why", 1, 0);
        Edge.is(x, 1, "why", 0, 1);
        Edge.is(x, 3, "why", 0, 0);
        Edge.is(x, true, "leak", 1);
        Edge.is(x, 3, "why", 1, 0);
        Edge.is(x, true, "keep", 0, 0);
        Edge.is(x, 0, "why", 0, 0);
        Edge.says(18, "IllegalArgumentException: the SIDE is none; IllegalStateException: no APPEAL can be made.");
        Edge.leaves(Scenes::over, 0, "why", 0, 0);
        Edge.leaves(Scenes::full, 0, "why", 0, 0);
        Edge.refusedFor(Scenes::over, Edge.INDEX, Edge.outside(3), "why", Edge.IT, 2);
        Edge.refusedFor(Scenes::over, Edge.ARGUMENT, Edge.outside(2), "why", 0, Edge.IT);
        Edge.refused(Scenes::bare, Edge.INDEX, "why", 0, 0);
        Edge.Made[] none = {Scenes::open, Scenes::round, Scenes::remanded, Scenes::second};
        for (Edge.Made made : none) {
            Edge.refused(made, Edge.STATE, "why", 0, 0);
            Edge.refused(made, Edge.ARGUMENT, "why", 0, 2);
            Edge.refused(made, Edge.INDEX, "why", 3, 2);
        }
    }

    private static void due() {
        Edge.says(19, "ISSUES of which WHY is 0 for a SIDE (bits; errors true: those that would be ERRORS alone).");
        RemandTree x = Scenes.over();
        Edge.is(x, 3, "due", 0, false);
        Edge.is(x, 4, "due", 1, false);
        Edge.ask(x, "tell", 1, 1, 6);
        Edge.is(x, 2, "due", 0, true);
        Edge.ask(x, "tell", 1, 1, 5);
        Edge.is(x, 3, "due", 0, true);
        Edge.ask(x, "tell", 1, 0, 6);
        Edge.is(x, 0, "due", 1, true);
        Edge.is(x, 1, "due", 0, true);
        RemandTree none = new RemandTree();
        Edge.is(none, 0, "due", 0, false);
        Edge.is(none, 0, "due", 1, true);
        Edge.says(19, "IllegalArgumentException: the SIDE is none; IllegalStateException: no APPEAL can be made.");
        Edge.leaves(Scenes::over, 3, "due", 0, false);
        Edge.leaves(Scenes::full, 1, "due", 0, true);
        Edge.refusedFor(Scenes::over, Edge.ARGUMENT, Edge.outside(2), "due", Edge.IT, false);
        Edge.Made[] mayNot = {Scenes::open, Scenes::round, Scenes::remanded, Scenes::second};
        for (Edge.Made made : mayNot) {
            Edge.refused(made, Edge.STATE, "due", 0, true);
            Edge.refused(made, Edge.ARGUMENT, "due", 2, false);
        }
    }
}
