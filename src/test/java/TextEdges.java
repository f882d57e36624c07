/** Boundary cases of promises 1 to 9, and of what Terms says of THE TEXT and THE FAULT. */
final class TextEdges {
    private static final String A = "issue a anew;";
    private static final int BLANKS = 0x20202020;
    private static final String[] WORDS = {"issue", "anew", "choice", "clear", "rests", "bars", "first", "second", "claim",
        "or", "and", "not", "of"};

    private TextEdges() {
    }

    static void run() {
        newObject();
        feedOrder();
        feedFull();
        end();
        readUsesUp();
        readReplaces();
        readOverLongNames();
        readOverNodes();
        readAfterWrongClaims();
        readRefused();
        fault();
        textLength();
        lines();
        claims();
        standardsAndLevels();
        names();
        numbers();
        blanks();
        words();
        issues();
        rests();
        bars();
        claimOnce();
        claimNames();
        claimDepth();
        faultAnywhere();
        moreMustCome();
        issue();
        name();
        bar();
        tell();
    }

    private static void newObject() {
        Edge.says(1, "No ISSUES; THE CLAIM does not hold.");
        RemandTree x = new RemandTree();
        Edge.row(x, new int[] {0, 1, 0, 1, 0, 0, 0, 0, 0, 0, 0}, "count", Edge.IT);
        Edge.row(x, new int[] {0, -1, -1, 0, 0, 0, 0, 1, -1, 0, 0, 0, 0, 0, 1}, "node", 0, Edge.IT);
        Edge.is(x, Edge.INDEX, "issue", 0, 0);
        Edge.is(x, Edge.INDEX, "name", 0, 0);
        Edge.is(x, Edge.INDEX, "rule", 0, 0, 0);
        Edge.is(x, Edge.INDEX, "decided", 0, 0, 0);
        Edge.is(x, 0, "pages", 0);
        Edge.is(x, Edge.ARGUMENT, "pages", 1);
        Edge.is(x, 0, "ways", 0);
        Edge.is(x, 1, "ways", 1);
        Edge.is(x, 0, "harmless");
        Edge.is(x, 0, "pivotal");
        Edge.is(x, -1, "swing", true);
        Edge.is(x, -1, "fault");
        Edge.row(x, new int[] {1, 0, 0, 0}, "fates", Edge.IT);
        Edge.row(x, new int[] {0, 0, 0}, "secure", 99, 99, Edge.IT);
        Edge.row(x, new int[] {0, 0, 0}, "chain", 99, Edge.IT);
        Edge.writes(x, "round", "write", 0);
        Edge.is(x, false, "end", 1);
        Edge.is(x, 1, "appeal", 0, 0);
        Edge.is(x, 2, "appeal", 0, 0);
        Edge.is(x, 0, "node", 2, 8);
        Edge.writes(x, "second affirmed", "write", 2);
        Edge.is(x, Edge.STATE, "appeal", 0, 0);
    }

    private static void feedOrder() {
        Edge.says(2, "Twenty bytes come behind the TAPE, of each number the highest first: how many it has");
        RemandTree x = new RemandTree();
        Edge.is(x, 20, "feed", 0x69737375, 0x65206162, 0x63642061, 0x6e65773b, 0x636c6169);
        Edge.is(x, 40, "feed", 0x6d206162, 0x63643b09, 0x0a202020, BLANKS, BLANKS);
        Edge.is(x, 1, "read");
        Edge.row(x, new int[] {'a', 'b', 'c', 'd', -1}, "name", 0, Edge.IT);
        for (int[] row : new int[][] {{0xff202020, BLANKS, 0}, {0x20ff2020, BLANKS, 1}, {0x202020ff, BLANKS, 3},
            {0x20202080, BLANKS, 3}, {BLANKS, 0x80202020, 16}, {BLANKS, Edge.MAX, 16}, {Edge.MIN, Edge.MIN, 0},
            {BLANKS, 0x202020e9, 19}, {BLANKS, -1, 16}, {BLANKS, BLANKS, 20}}) {
            Edge.is(x, 20, "feed", row[0], BLANKS, BLANKS, BLANKS, row[1]);
            Edge.is(x, Edge.ARGUMENT, "read");
            Edge.is(x, row[2], "fault");
        }
    }

    private static void feedFull() {
        Edge.says(2, "NONE, and none come, if it would have more than 400");
        RemandTree x = new RemandTree();
        for (int bytes = 20; bytes <= 400; bytes += 20) {
            Edge.is(x, bytes, "feed", BLANKS, BLANKS, BLANKS, BLANKS, BLANKS);
        }
        Edge.is(x, -1, "feed", 0, 0, 0, 0, 0);
        Edge.is(x, false, "end", 401);
        Edge.is(x, true, "end", 400);
        for (int bytes : new int[] {399, 390, 382, 381}) {
            Edge.is(x, true, "end", bytes);
            Edge.is(x, -1, "feed", 0, 0, 0, 0, 0);
            Edge.is(x, false, "end", bytes + 1);
        }
        Edge.is(x, true, "end", 380);
        Edge.is(x, 400, "feed", BLANKS, BLANKS, BLANKS, BLANKS, BLANKS);
        Edge.is(x, -1, "feed", Edge.MIN, Edge.MAX, -1, 0, 1);
        Edge.is(x, Edge.ARGUMENT, "read");
        Edge.is(x, 400, "fault");
        Edge.is(x, 20, "feed", 0, 0, 0, 0, 0);
    }

    private static void end() {
        Edge.says(3, "The TAPE has its first n bytes alone: true");
        RemandTree x = new RemandTree();
        Edge.is(x, true, "end", 0);
        Edge.is(x, 20, "feed", BLANKS, BLANKS, BLANKS, BLANKS, 0);
        Edge.is(x, true, "end", 20);
        Edge.is(x, true, "end", 16);
        Edge.is(x, 36, "feed", BLANKS, 0, BLANKS, BLANKS, BLANKS);
        Edge.is(x, Edge.ARGUMENT, "read");
        Edge.is(x, 20, "fault");
        Edge.is(x, 20, "feed", 0, 0, 0, 0, 0);
        Edge.is(x, true, "end", 1);
        Edge.is(x, true, "end", 0);
        Edge.is(x, 20, "feed", BLANKS, BLANKS, BLANKS, BLANKS, BLANKS);
        Edge.is(x, true, "end", 19);
        Edge.is(x, Edge.ARGUMENT, "read");
        Edge.is(x, 19, "fault");
        Edge.says(3, "false, and nothing happens, if it has fewer, or n is below 0");
        Edge.is(x, false, "end", 1);
        Edge.is(x, false, "end", -1);
        Edge.tape(x, A + "claim a;");
        for (int n : new int[] {22, 23, 401, Edge.MAX, -1, -21, Edge.MIN}) {
            Edge.is(x, false, "end", n);
        }
        Edge.is(x, true, "end", 21);
        Edge.is(x, 1, "read");
    }

    private static void readUsesUp() {
        Edge.says(4, "Uses the TAPE up");
        RemandTree x = Edge.of(A + "claim a;");
        Edge.is(x, false, "end", 1);
        Edge.is(x, true, "end", 0);
        Edge.is(x, Edge.ARGUMENT, "read");
        Edge.is(x, 0, "fault");
        Edge.tape(x, A);
        Edge.is(x, Edge.ARGUMENT, "read");
        Edge.is(x, false, "end", 1);
        Edge.is(x, 20, "feed", BLANKS, BLANKS, BLANKS, BLANKS, BLANKS);
        Edge.says(4, "how many ISSUES");
        Edge.right(1, A + "claim a;");
        Edge.right(8, eight() + "claim a;");
    }

    private static String eight() {
        StringBuilder out = new StringBuilder();
        for (char c = 'a'; c <= 'h'; c++) {
            out.append("issue ").append(c).append(" anew;");
        }
        return out.toString();
    }

    private static void readReplaces() {
        Edge.says(4, "it is THE TEXT (in place of the one before; NODE 0 alone is there then, and NOW)");
        RemandTree x = Scenes.second();
        Edge.is(x, 2, "read");
        Edge.row(x, new int[] {2, 1, 0, 1, 0, 0, 0, 0, 0, 2}, "count", Edge.IT);
        Edge.row(x, new int[] {0, -1, -1, 3, 3, 0, 0, -1, -1, 0, 0, 0, 0, 0, 1}, "node", 0, Edge.IT);
        Edge.is(x, Edge.INDEX, "node", 1, 0);
        Edge.is(x, Edge.INDEX, "go", 1);
        Edge.is(x, Edge.INDEX, "issue", 2, 0);
        for (int issue = 0; issue < 2; issue++) {
            Edge.row(x, new int[] {2, 0, 0}, "issue", issue, Edge.IT);
            Edge.row(x, new int[] {'q' + issue, -1}, "name", issue, Edge.IT);
            Edge.row(x, new int[] {-1, -1, -1, -1}, "decided", 0, issue, Edge.IT);
            Edge.row(x, new int[] {0, 0, 0}, "times", 0, issue, Edge.IT);
        }
        Edge.is(x, 7, "bar", 2, 2);
        Edge.is(x, 0, "leaf", 0);
        Edge.is(x, -1, "child", 0, 0);
        for (int side = 0; side <= 1; side++) {
            Edge.is(x, 0, "tally", 0, side, -1);
            Edge.is(x, side == 0 ? 1 : 3, "ways", side);
        }
        Edge.is(x, 1, "rule", 0, 0, 0);
        Edge.is(x, 0, "node", 0, 13);
        Edge.tape(x, eight() + "claim h;");
        Edge.is(x, 8, "read");
        Edge.is(x, 255, "node", 0, 3);
        Edge.is(x, 255, "node", 0, 4);
        Edge.is(x, 0, "issue", 1, 2);
        Edge.is(x, 1, "count", 9);
    }

    /** Nothing of longer names is left. */
    private static void readOverLongNames() {
        Edge.says(4, "it is THE TEXT (in place of the one before;");
        RemandTree x = new RemandTree();
        StringBuilder text = new StringBuilder();
        for (char c = 'a'; c <= 'h'; c++) {
            text.append("issue zzzzz").append(c).append(" anew;");
        }
        for (int times = 0; times < 3; times++) {
            Edge.tape(x, text + "claim zzzzza;");
            Edge.is(x, 8, "read");
        }
        Edge.tape(x, eight() + "claim h;");
        Edge.is(x, 8, "read");
        Edge.tape(x, eight() + "claim h;");
        Edge.is(x, 8, "read");
        for (int issue = 0; issue < 8; issue++) {
            Edge.row(x, new int[] {'a' + issue, -1, -1, -1, -1, -1}, "name", issue, Edge.IT);
        }
        Edge.is(x, 128, "pivotal");
    }

    /** Rounds come where appeals were that turned and were briefed, and the other way about. */
    private static void readOverNodes() {
        Edge.says(4, "NODE 0 alone is there then, and NOW)");
        RemandTree x = Edge.of(A + "issue b choice;claim a or b;");
        Edge.kept(x, 0, 1, 5);
        Edge.kept(x, 1, 1, 5);
        Edge.is(x, 1, "appeal", 3, 3);
        Edge.is(x, 2, "appeal", 3, 3);
        Edge.is(x, 3, "node", 2, 10);
        Edge.is(x, 1, "node", 2, 9);
        Edge.tape(x, "issue a choice;claim a;");
        Edge.is(x, 1, "read");
        Edge.kept(x, 0, 1, 5);
        Edge.is(x, 1, "appeal", 1, 0);
        Edge.row(x, new int[] {1, 0, 3, 1, 1, 0, 0, -1, 0, 0, 1, 0, 0, 0, 1}, "node", 1, Edge.IT);
        Edge.is(x, 2, "round");
        Edge.row(x, new int[] {0, 1, -1, 1, 1, 0, 0, -1, -1, 0, 0, 0, 0, 0, 2}, "node", 2, Edge.IT);
        Edge.tape(x, A + "claim a;");
        Edge.is(x, 1, "read");
        Edge.kept(x, 0, 1, 5);
        Edge.is(x, 1, "appeal", 1, 0);
        Edge.is(x, 2, "appeal", 0, 0);
        Edge.row(x, new int[] {2, 1, 0, 0, 0, 1, 0, 0, 1, 0, 0, 0, 0, 0, 1}, "node", 2, Edge.IT);
    }

    /** Claims that were read half are gone. */
    private static void readAfterWrongClaims() {
        Edge.says(4, "Uses the TAPE up: it is THE TEXT");
        RemandTree x = new RemandTree();
        for (int times = 0; times < 3; times++) {
            Edge.tape(x, A + "claim 1 of (" + many(40, ",") + ";");
            Edge.is(x, Edge.ARGUMENT, "read");
        }
        Edge.tape(x, A + "issue b anew;claim 1 of (" + many(39, ",") + ",b);");
        Edge.is(x, 2, "read");
        Edge.is(x, 3, "ways", 0);
        Edge.is(x, 40, "count", 9);
    }

    private static void readRefused() {
        Edge.says(4, "IllegalArgumentException: the text is wrong.");
        Edge.says(Edge.TERMS, "a call that throws changes nothing but the TAPE, where it is used up, and fault(), where a text "
            + "is read.");
        Edge.Made[] scenes = {Scenes::bare, Scenes::open, Scenes::round, Scenes::second, Scenes::full};
        for (Edge.Made made : scenes) {
            for (String text : new String[] {"", "issue z clear;bars first 9 9 9;bars second 0 0 0;claim z;claim z;"}) {
                RemandTree x = made.make();
                Edge.is(x, true, "end", 0);
                Edge.tape(x, text);
                Edge.is(x, Edge.ARGUMENT, "read");
                Edge.is(x, Math.max(0, text.length() - 8), "fault");
                Edge.is(x, false, "end", 1);
                Check.due("a wrong text changes nothing else", Edge.look(x), Edge.look(made.make()));
            }
        }
    }

    private static void fault() {
        Edge.says(5, "THE FAULT of the latest read(); NONE without one, and ahead of any.");
        RemandTree x = new RemandTree();
        Edge.is(x, -1, "fault");
        Edge.tape(x, "?");
        Edge.is(x, -1, "fault");
        Edge.is(x, Edge.ARGUMENT, "read");
        Edge.is(x, 0, "fault");
        Edge.tape(x, "issue ?");
        Edge.is(x, 0, "fault");
        Edge.is(x, Edge.ARGUMENT, "read");
        Edge.is(x, 6, "fault");
        Edge.is(x, Edge.INDEX, "go", 1);
        Edge.is(x, 6, "fault");
        Edge.tape(x, A + "claim a;");
        Edge.is(x, 6, "fault");
        Edge.is(x, 1, "read");
        Edge.is(x, -1, "fault");
        Edge.is(x, Edge.ARGUMENT, "read");
        Edge.is(x, 0, "fault");
    }

    private static String blanks(int many) {
        return " ".repeat(many);
    }

    private static void textLength() {
        Edge.says(Edge.TERMS, "THE TEXT has at most 400 bytes");
        String text = A + "claim a;";
        Edge.right(1, text + blanks(379));
        Edge.right(1, blanks(379) + text);
        Edge.right(1, A + blanks(379) + "claim a;");
        Edge.wrong(400, A + blanks(379) + "claim a ");
        Edge.wrong(399, A + blanks(379) + "claim a?");
        Edge.wrong(400, blanks(400));
        Edge.wrong(399, blanks(399) + ";");
        Edge.wrong(0, "");
        RemandTree x = new RemandTree();
        Edge.tape(x, blanks(379) + text);
        Edge.is(x, -1, "feed", 0, 0, 0, 0, 0);
        Edge.is(x, 1, "read");
    }

    private static void lines() {
        Edge.says(Edge.TERMS, "{ LINE ; }. LINE: issue NAME STANDARD [ rests NAME { , NAME } ] | bars LEVEL NUMBER NUMBER NUMBER | "
            + "claim E.");
        for (String marked : new String[] {"^;", "issue^;", "issue ^anew;", "issue a^;", "issue a anew ^anew;", "issue a anew^,",
            A + "^a", A + "^anew;", A + "^rests a;", A + "issue b anew rests^;", A + "issue b anew rests a,^;",
            A + "issue b anew rests^,a;", A + "issue b anew rests a ^rests a;", A + "issue b anew rests a^)",
            A + "bars^;", A + "bars first^;", A + "bars first 1^;", A + "bars first 1 2^;", A + "bars first 1 2 3 ^4;",
            A + "bars first 1^,2,3;", A + "bars first ^second 1 2 3;", A + "bars first 1 2 3 ^bars second 1 2 3;",
            A + "bars ^1 2 3;", A + "claim^;", A + "claim a;^;", A + "claim a ^claim a;", A + "claim a^,a;",
            "issue a anew ^claim a;", A + "^first 1 2 3;", "issue a ^issue b anew;", "issue a ^claim a;",
            "issue a ^bars first 1 2 3;", A + "bars first 1 2 ^claim a;", A + "bars first ^issue b anew;", A + "bars ^claim a;",
            A + "claim a;^5", A + "claim a;^a", "^5", A + "claim a;^)", A + "issue b anew rests a ^claim a;", A + "claim a;^,"}) {
            Edge.wrong(marked);
        }
        Edge.right(2, A + "issue b anew rests a;claim a;");
        Edge.right(1, "bars first 1 2 3;" + A + "bars first 1 2 3;claim a;bars second 1 2 3;");
    }

    private static void claims() {
        Edge.says(Edge.TERMS, "E: ALL { or ALL }; ALL: PART { and PART }; PART: not PART | NAME | ( E ) | NUMBER of ( E { , E } ).");
        for (String marked : new String[] {"^;", "a or^;", "a and^;", "not^;", "not not^;", "(^);", "(a^;", "(a or^);", "a^);", "a^(a);", "a ^a;",
            "a ^not a;", "^or a;", "^and a;", "a or ^or a;", "a or ^and a;", "a and ^or a;", "^of (a);", "1^;", "1^(a);", "1 ^a;",
            "1 of^;", "1 of ^a;", "1 of (^);", "1 of (^;", "1 of (a,^;", "(^;", "not (^;", "not ^b;", "not (^b;", "1 of (^,a);", "1 of (a^;", "1 of (a,^);", "1 of (a,^,a);", "1 of (a ^a);", "1 ^1 of (a);",
            "1 of ^not a;", "not ^or a;", "a or ^claim a;", "(a^,a);", "a ^2 of (a);", "1 of (a) ^a;"}) {
            Edge.wrong(A + "claim " + marked);
        }
        Edge.says(Edge.TERMS, "E: ALL { or ALL }; ALL: PART { and PART }");
        String[] claims = {"a or b and c", "(a or b) and c", "a and b or c", "not a and b", "not (a and b)", "not a or b", "not not a",
            "1 of (a) and 1 of (b)", "2 of (a, b) or 1 of (c)", "1 of (a) and 1 of (b) and 1 of (c)", "2 of (a, b or c)"};
        int[] ways = {5, 3, 5, 2, 6, 6, 4, 2, 5, 1, 3};
        for (int k = 0; k < claims.length; k++) {
            RemandTree x = Edge.of(A + "issue b anew;issue c anew;claim " + claims[k] + ";");
            Edge.is(x, ways[k], "ways", 0);
            Edge.is(x, 8 - ways[k], "ways", 1);
        }
        String[] wide = {"1 of (a and not h)", "1 of (a and not g)", "h and not g", "2 of (a, g, h)", "0 of (a) and h", "a and b and g and h"};
        int[] wideWays = {64, 64, 64, 128, 128, 16};
        for (int k = 0; k < wide.length; k++) {
            Edge.is(Edge.of(eight() + "claim " + wide[k] + ";"), wideWays[k], "ways", 0);
        }
    }

    private static void standardsAndLevels() {
        Edge.says(Edge.TERMS, "STANDARD: anew, choice or clear (0, 1, 2).");
        RemandTree x = Edge.of("issue a anew;issue b choice;issue c clear;claim a;");
        for (int issue = 0; issue < 3; issue++) {
            Edge.is(x, issue, "issue", issue, 0);
        }
        for (String word : new String[] {"first", "rests", "of", "a", "new", "anewx", "ane", "0", "1"}) {
            Edge.wrong(8, "issue a " + word + ";claim a;");
        }
        Edge.says(Edge.TERMS, "LEVEL: first or second.");
        RemandTree y = Edge.of("bars first 2 3 4;bars second 5 6 8;" + A + "claim a;");
        Edge.row(y, new int[] {2, 3, 4}, "bar", 1, Edge.IT);
        Edge.row(y, new int[] {5, 6, 8}, "bar", 2, Edge.IT);
        for (String word : new String[] {"third", "firs", "firsts", "seconds", "anew", "a", "1", "2"}) {
            Edge.wrong(A.length() + 5, A + "bars " + word + " 1 2 3;claim a;");
        }
    }

    private static void names() {
        Edge.says(Edge.TERMS, "NAMES: 1 to 6 letters a to z, none of issue, anew, choice, clear, rests, bars, first, second, claim, "
            + "or, and, not, of.");
        for (String name : new String[] {"a", "z", "az", "abcdef", "zzzzzz", "issu", "issues", "anews", "ane", "choic", "clears",
            "rest", "bar", "barss", "firsts", "secon", "claims", "o", "ors", "ands", "an", "nots", "no", "ofs", "f", "r",
            "xssue", "xnew", "xhoice", "xlear", "xests", "xars", "xirst", "xecond", "xlaim", "xr", "xnd", "xot", "xf",
            "issux", "anex", "choicx", "cleax", "restx", "barx", "firsx", "seconx", "claix", "ox", "anx", "nox"}) {
            Edge.right(1, "issue " + name + " anew;claim " + name + ";");
        }
        Edge.wrong("issue  ^anew;claim a;");
        Edge.wrong("issue ^abcdefg anew;");
        Edge.wrong("issue ^seconds anew;");
        Edge.wrong("issue ^zzzzzzzz anew;");
        for (String word : WORDS) {
            Edge.wrong(6, "issue " + word + " anew;claim " + word + ";");
            Edge.wrong(A.length() + 19, A + "issue b anew rests " + word + ";claim a;");
            if (!word.equals("not")) {
                Edge.wrong(A.length() + 6, A + "claim " + word + ";");
            }
        }
        for (char c : new char[] {96, 123, 'A', 'Z', '0', '9', '_', '-', 224, 255, 0}) {
            Edge.wrong(6, "issue " + c + " anew;claim a;");
            Edge.wrong(7, "issue a" + c + " anew;claim a;");
        }
    }

    private static void numbers() {
        Edge.says(Edge.TERMS, "NUMBERS: 1 digit.");
        for (int n = 0; n <= 9; n++) {
            RemandTree x = Edge.of(A + "bars first " + n + " 0 9;bars second 9 0 " + n + ";claim " + n + " of (a);");
            Edge.is(x, n, "bar", 1, 0);
            Edge.is(x, n, "bar", 2, 2);
            Edge.is(x, n == 0 ? 2 : n == 1 ? 1 : 0, "ways", 0);
        }
        for (char c : new char[] {47, 58, 'a', '-', '+', 176}) {
            Edge.wrong(A.length() + 11, A + "bars first " + c + " 0 9;claim a;");
            Edge.wrong(A.length() + 15, A + "bars first 0 0 " + c + ";claim a;");
        }
        for (String marked : new String[] {"bars first ^10 1 1;", "bars first 1 ^00 1;", "bars first 1 1 ^99;", "bars first ^111;",
            "bars first 1 ^11;", A + "claim ^10 of (a);", A + "claim ^01 of (a);", A + "claim ^-1 of (a);",
            A + "claim (^12 of (a));"}) {
            Edge.wrong(marked);
        }
    }

    private static void blanks() {
        Edge.says(Edge.TERMS, "BLANKS (9, 10, 32) may stand between all");
        for (int c = 0; c <= 255; c++) {
            String text = "issue" + (char) c + "a anew;claim a;";
            if (c == 9 || c == 10 || c == 32) {
                Edge.right(1, text);
                Edge.right(1, (char) c + text + (char) c);
                Edge.right(2, spread(String.valueOf((char) c)));
                Edge.right(2, spread(" " + (char) c + "\t"));
            } else {
                Edge.wrong(c >= 'a' && c <= 'z' ? 0 : 5, text);
                Edge.wrong(A.length(), A + (char) c + "claim a;");
            }
        }
        Edge.right(2, "issue a anew;issue b clear rests a;bars first 1 2 3;claim 1of(a,not(b))and(b or a);");
        for (String marked : new String[] {"^is sue a anew;", "issue a ^an ew;", "issue a ^bc anew;", A + "claim a ^o r a;"}) {
            Edge.wrong(marked);
        }
    }

    private static String spread(String blank) {
        return String.join(blank, TOKENS) + blank;
    }

    private static final String[] TOKENS = {"issue", "a", "anew", ";", "bars", "second", "3", "4", "5", ";", "issue", "b", "clear",
        "rests", "a", ";", "claim", "2", "of", "(", "a", ",", "not", "(", "b", ")", ",", "b", ")", "and", "a", "or", "b", ";"};

    private static void words() {
        Edge.says(Edge.TERMS, "words are as many small letters as stand there.");
        for (String marked : new String[] {"^issuea anew;", "issue aanew^;", A + "^claima;", A + "claim ^nota;", A + "claim a ^ora;",
            A + "claim a ^andnot a;", A + "claim ^aor a;", A + "claim 1 ^ofa;", A + "issue b anew ^restsa;", A + "^barsfirst 1 2 3;",
            A + "bars ^firstx 1 2 3;"}) {
            Edge.wrong(marked);
        }
        Edge.right(1, A + "bars first1 2 3;claim(a)and(a)or not(a);");
    }

    private static void issues() {
        Edge.says(Edge.TERMS, "ISSUES, at most 8, numbered as they come");
        RemandTree x = Edge.of(eight() + "claim h;");
        for (int issue = 0; issue < 8; issue++) {
            Edge.is(x, 'a' + issue, "name", issue, 0);
        }
        Edge.is(x, Edge.INDEX, "name", 8, 0);
        Edge.says(Edge.TERMS, "a ninth issue");
        Edge.wrong(eight() + "^issue i anew;claim a;");
        Edge.wrong(eight() + "^issue a anew;claim a;");
        Edge.wrong(eight() + "claim a;^issue i anew;");
        Edge.wrong(eight() + "^issue");
        Edge.wrong(eight() + "bars first 1 1 1; ^issue ?;");
        Edge.says(Edge.TERMS, "a NAME told already");
        Edge.wrong(A + "issue ^a anew;claim a;");
        Edge.wrong(A + "issue b anew;issue ^a clear;claim a;");
        Edge.wrong("issue abcdef anew;issue ^abcdef anew;claim abcdef;");
        Edge.wrong(A + "claim a;issue ^a anew;");
        Edge.right(3, A + "issue aa anew;issue ab anew;claim aa;");
        Edge.right(2, "issue abcdef anew;issue abcde anew;claim abcde;");
    }

    private static void rests() {
        Edge.says(Edge.TERMS, "what one RESTS on is told ahead (each once).");
        RemandTree x = Edge.of("issue a anew;issue b anew;issue c anew;issue d anew;issue e anew;issue f anew;issue g anew;"
            + "issue h anew rests g,a,c,b,f,e,d;claim h;");
        Edge.is(x, 127, "issue", 7, 1);
        Edge.is(x, 128, "issue", 0, 2);
        Edge.says(Edge.TERMS, "or not told yet, or told twice behind rests");
        for (String marked : new String[] {"issue a anew rests ^a;", "issue a anew rests ^b;issue b anew;claim a;",
            A + "issue b anew rests ^b;", A + "issue b anew rests a,^b;", A + "issue b anew rests a,^c;issue c anew;claim a;",
            A + "issue b anew rests a,^a;", A + "issue b anew;issue c anew rests a,b,^a;", A + "issue b anew rests ^aa;",
            A + "issue b anew;issue c anew rests b,^b;", A + "claim ^b;issue b anew;"}) {
            Edge.wrong(marked);
        }
        Edge.right(3, A + "claim a;issue b anew rests a;issue c anew rests a,b;");
    }

    private static void bars() {
        Edge.says(Edge.TERMS, "bars: BARS of a LEVEL for STANDARDS 0, 1, 2 (1, 4, 7 without; the latest one told counts).");
        RemandTree none = Edge.of(A + "claim a;");
        Edge.row(none, new int[] {1, 4, 7}, "bar", 1, Edge.IT);
        Edge.row(none, new int[] {1, 4, 7}, "bar", 2, Edge.IT);
        RemandTree first = Edge.of("bars first 9 0 9;" + A + "claim a;");
        Edge.row(first, new int[] {9, 0, 9}, "bar", 1, Edge.IT);
        Edge.row(first, new int[] {1, 4, 7}, "bar", 2, Edge.IT);
        RemandTree latest = Edge.of("bars second 9 9 9;bars second 0 1 2;" + A + "claim a;bars second 3 5 6;bars first 8 8 8;");
        Edge.row(latest, new int[] {8, 8, 8}, "bar", 1, Edge.IT);
        Edge.row(latest, new int[] {3, 5, 6}, "bar", 2, Edge.IT);
        Edge.tape(latest, A + "claim a;");
        Edge.is(latest, 1, "read");
        Edge.row(latest, new int[] {1, 4, 7}, "bar", 2, Edge.IT);
        RemandTree bare = new RemandTree();
        Edge.row(bare, new int[] {1, 4, 7}, "bar", 1, Edge.IT);
    }

    private static void claimOnce() {
        Edge.says(Edge.TERMS, "claim: once, behind all ISSUES that it names");
        Edge.right(2, A + "claim a;issue b anew;");
        Edge.right(1, A + "claim a and a;");
        Edge.wrong("claim ^a;issue a anew;");
        Edge.wrong(A + "claim a and ^b;issue b anew;");
        Edge.wrong(A + "claim ^b;");
        Edge.says(Edge.TERMS, "a second claim at that word");
        Edge.wrong(A + "claim a;^claim a;");
        Edge.wrong(A + "claim a;issue b anew;^claim b;");
        Edge.wrong(A + "claim a; \n^claim");
        Edge.says(Edge.TERMS, "A text without a claim is wrong.");
        Edge.wrong(A + "^");
        Edge.wrong(A + "bars first 1 2 3; ^");
        Edge.wrong(eight() + "^");
    }

    private static String many(int names, String joint) {
        StringBuilder out = new StringBuilder("a");
        for (int k = 1; k < names; k++) {
            out.append(joint).append("a");
        }
        return out.toString();
    }

    private static void claimNames() {
        Edge.says(Edge.TERMS, "at most 40 NAMES in it");
        for (String joint : new String[] {" or ", " and "}) {
            RemandTree x = Edge.of(A + "claim " + many(40, joint) + ";");
            Edge.is(x, 40, "count", 9);
            Edge.is(x, 1, "ways", 0);
        }
        RemandTree of = Edge.of(A + "issue b anew;claim 9 of (" + many(39, ",") + ",b);");
        Edge.is(of, 40, "count", 9);
        Edge.is(of, 2, "ways", 0);
        RemandTree fortieth = Edge.of(A + "issue b anew;claim 1 of (" + many(39, ",") + ",b);");
        Edge.is(fortieth, 3, "ways", 0);
        for (String last : new String[] {"a or b", "a and b", "not a,not b", "a,(b)", "1 of (a,b)"}) {
            RemandTree x = Edge.of(A + "issue b anew;claim 2 of (" + many(38, ",") + "," + last + ");");
            Edge.is(x, 40, "count", 9);
            Edge.is(x, last.equals("not a,not b") ? 3 : 2, "ways", 0);
        }
        Edge.says(Edge.TERMS, "the 41st NAME");
        Edge.wrong(A + "claim " + many(40, " or ") + " or ^a;");
        Edge.wrong(A + "claim " + many(40, " and ") + " and ^b;");
        Edge.wrong(A + "claim 1 of (" + many(40, ",") + ",^a);");
        Edge.wrong(A + "claim (" + many(20, " or ") + ") and (" + many(20, " or ") + ") and not ^a;");
        Edge.wrong(A + "claim " + many(40, " or ") + " or^");
    }

    private static void claimDepth() {
        Edge.says(Edge.TERMS, "6 of not and ( within one another.");
        for (String claim : new String[] {"not not not not not not a", "((((((a))))))", "not(not(not(a)))", "(not(not(not a)))",
            "((((((a)))))) and ((((((a))))))", "not not not not not not a or not not not not not not a",
            "1 of(1 of(1 of(1 of(1 of(1 of(a))))))", "not 1 of(not 1 of(not(a)))",
            "((((((a))))) and (((((a))))))", "1 of(((((not a)))),((((not a)))))"}) {
            Edge.right(1, A + "claim " + claim + ";");
        }
        Edge.says(Edge.TERMS, "the 7th not or bracket");
        for (String marked : new String[] {"not not not not not not ^not a", "((((((^(a)))))))", "not(not(not(^not a)))",
            "((((((^not a))))))", "not not not not not not ^(a)", "((((((a)))))) and ((((((^(a)))))))", "((((((a or ^(a)))))))",
            "1 of(1 of(1 of(1 of(1 of(1 of(1 of^(a)))))))", "((((((1 of ^(a)))))))", "1 of(a,not not not not not ^not a)",
            "((((((^not"}) {
            Edge.wrong(A + "claim " + marked);
        }
    }

    /** At each place between tokens a sign that no text has. */
    private static void faultAnywhere() {
        Edge.says(Edge.TERMS, "THE FAULT: the first byte with which no such text goes on");
        StringBuilder text = new StringBuilder();
        for (int k = 0; k <= TOKENS.length; k++) {
            Edge.wrong(text.length(), text + "? ;");
            if (k < TOKENS.length) {
                text.append(TOKENS[k]).append(' ');
            }
        }
        Edge.wrong("^?issue ? ? ;claim");
        Edge.says(Edge.TERMS, "a word, a NUMBER and what is one too many at its first byte");
        Edge.wrong(A + "  ^clam a;");
        Edge.wrong(A + "bars first 1 2 ^345;");
        Edge.wrong(A + "claim a ^xyz;");
    }

    /** Each beginning of a right text, with a blank behind it and without. */
    private static void moreMustCome() {
        Edge.says(Edge.TERMS, "the text's length, if more must come (a claim, too).");
        StringBuilder text = new StringBuilder();
        for (int k = 0; k < TOKENS.length; k++) {
            Edge.wrong(text.length(), text.toString());
            text.append(TOKENS[k]);
            if (k < TOKENS.length - 1) {
                Edge.wrong(text.length(), text.toString());
            }
            text.append(' ');
        }
        Edge.right(2, text.toString());
        Edge.wrong(A + "claim a;issue b anew^");
        Edge.wrong(A + "claim a;bars first 1 2 3^");
        Edge.wrong(A + "claim a;bars^");
    }

    private static void issue() {
        Edge.says(6, "what 0 STANDARD, 1 what it RESTS on (bits), 2 what RESTS on it, ISSUE by ISSUE on (bits).");
        RemandTree x = Edge.of("issue a clear;issue b anew rests a;issue c anew rests b;issue d anew rests c;issue e anew rests d;"
            + "issue f anew rests e;issue g anew rests f;issue h choice rests g;claim h;");
        int[] above = {254, 252, 248, 240, 224, 192, 128, 0};
        for (int issue = 0; issue < 8; issue++) {
            Edge.is(x, issue == 0 ? 2 : issue == 7 ? 1 : 0, "issue", issue, 0);
            Edge.is(x, issue == 0 ? 0 : 1 << (issue - 1), "issue", issue, 1);
            Edge.is(x, above[issue], "issue", issue, 2);
        }
        RemandTree apart = Edge.of("issue a anew;issue b anew;issue c anew rests a;issue d anew rests b;claim a;");
        Edge.is(apart, 4, "issue", 0, 2);
        Edge.is(apart, 8, "issue", 1, 2);
        Edge.refusedFor(Scenes::over, Edge.INDEX, Edge.outside(3), "issue", Edge.IT, 0);
        Edge.refused(Scenes::bare, Edge.INDEX, "issue", 0, 0);
        Edge.says(6, "NoSuchElementException: another what.");
        Edge.refusedFor(Scenes::over, Edge.SUCH, Edge.outside(3), "issue", 2, Edge.IT);
        Edge.refused(Scenes::over, Edge.INDEX, "issue", 3, 3);
    }

    private static void name() {
        Edge.says(7, "Letter k of an ISSUE's NAME; NONE behind it.");
        RemandTree x = Edge.of("issue abcxyz anew;issue q anew;claim q;");
        Edge.row(x, new int[] {'a', 'b', 'c', 'x', 'y', 'z', -1, -1}, "name", 0, Edge.IT);
        Edge.row(x, new int[] {'q', -1, -1, -1, -1, -1, -1}, "name", 1, Edge.IT);
        for (int k : new int[] {-1, Edge.MIN, Edge.MAX, 8, 100}) {
            Edge.is(x, -1, "name", 0, k);
            Edge.is(x, -1, "name", 1, k);
        }
        Edge.refusedFor(Scenes::over, Edge.INDEX, Edge.outside(3), "name", Edge.IT, 0);
        Edge.refused(Scenes::bare, Edge.INDEX, "name", 0, 0);
    }

    private static void bar() {
        Edge.says(8, "The BAR of a LEVEL (1, 2) for a STANDARD, as it is now. IllegalArgumentException: one is none.");
        RemandTree x = Edge.of("bars first 0 1 2;bars second 7 8 9;" + A + "claim a;");
        Edge.row(x, new int[] {0, 1, 2}, "bar", 1, Edge.IT);
        Edge.row(x, new int[] {7, 8, 9}, "bar", 2, Edge.IT);
        Edge.is(x, 8, "tell", 2, 1, 3);
        Edge.row(x, new int[] {7, 3, 9}, "bar", 2, Edge.IT);
        Edge.refusedFor(Scenes::over, Edge.ARGUMENT, new int[] {Edge.MIN, -1, 0, 3, Edge.MAX}, "bar", Edge.IT, 0);
        Edge.refusedFor(Scenes::over, Edge.ARGUMENT, Edge.outside(3), "bar", 1, Edge.IT);
        Edge.refusedFor(Scenes::bare, Edge.ARGUMENT, Edge.outside(3), "bar", 2, Edge.IT);
    }

    private static void tell() {
        Edge.says(9, "A BAR becomes n (0 to 9): what it was");
        RemandTree x = new RemandTree();
        for (int level = 1; level <= 2; level++) {
            for (int standard = 0; standard <= 2; standard++) {
                Edge.is(x, 1 + 3 * standard, "tell", level, standard, 0);
                Edge.is(x, 0, "bar", level, standard);
                Edge.is(x, 0, "tell", level, standard, 9);
                Edge.is(x, 9, "tell", level, standard, 9);
                Edge.is(x, 9, "bar", level, standard);
                Edge.is(x, 9, "tell", level, standard, 1 + 3 * standard);
            }
        }
        Edge.says(9, "IllegalArgumentException: LEVEL (1, 2), STANDARD, n is none.");
        Edge.refusedFor(Scenes::over, Edge.ARGUMENT, Edge.outside(10), "tell", 1, 0, Edge.IT);
        Edge.refusedFor(Scenes::over, Edge.ARGUMENT, Edge.outside(3), "tell", 1, Edge.IT, 5);
        Edge.refusedFor(Scenes::over, Edge.ARGUMENT, new int[] {Edge.MIN, -1, 0, 3, Edge.MAX}, "tell", Edge.IT, 0, 5);
        Edge.says(9, "(NODES that there are stay as they are)");
        RemandTree y = Scenes.second();
        String before = nodesOf(Scenes.second());
        for (int k = 0; k < 6; k++) {
            Edge.ask(y, "tell", 1 + k / 3, k % 3, k % 2 == 0 ? 0 : 9);
        }
        Check.due("9 nodes stay", nodesOf(y), before);
    }

    private static String nodesOf(RemandTree x) {
        StringBuilder out = new StringBuilder();
        int nodes = Edge.number(x, "count", 1);
        for (int node = 0; node < nodes; node++) {
            for (int what = 0; what <= 14; what++) {
                out.append(Edge.ask(x, "node", node, what)).append(' ');
            }
            for (int issue = 0; issue < 3; issue++) {
                out.append(Edge.ask(x, "decided", node, issue, 0)).append(Edge.ask(x, "decided", node, issue, 1)).append(' ');
            }
        }
        return out.toString();
    }
}
