import java.util.NoSuchElementException;

/** Promises 1 to 9: a new object, the tape, the text, its faults, what it tells. */
public final class TextTests {
    private static final String A = "issue a anew;";
    private static final String FOUR =
        "issue a anew;issue bcd choice rests a;issue c clear rests bcd;issue d anew rests a,c;claim d;";

    private TextTests() {
    }

    public static void main(String[] args) {
        newObject();
        feed();
        end();
        read();
        faultsOfLines();
        faultsOfNames();
        faultsOfBars();
        faultsOfClaims();
        claims();
        issueAndName();
        bars();
        Check.close("TextTests");
    }

    private static void newObject() {
        RemandTree x = new RemandTree();
        Check.due("1 count(0)", x.count(0), 0);
        Check.due("1 count(1)", x.count(1), 1);
        Check.due("1 count(9)", x.count(9), 0);
        Check.due("1 count(10)", x.count(10), 0);
        Check.due("1 node(0, 7)", x.node(0, 7), 1);
        Check.due("1 ways(0)", x.ways(0), 0);
        Check.due("1 write(0)", x.write(0), 5);
        Check.due("1 written", Check.written(x), "round");
        Check.due("1 appeal(0, 0)", x.appeal(0, 0), 1);
        Check.due("1 node(1, 8)", x.node(1, 8), 0);
        Check.due("1 node(1, 2)", x.node(1, 2), 0);
        Check.thrown("1 issue(0, 0)", IndexOutOfBoundsException.class, () -> x.issue(0, 0));
        Check.due("constant", RemandTree.NONE, -1);
    }

    private static void feed() {
        RemandTree x = new RemandTree();
        Check.due("2 feed", x.feed(0x69737375, 0x65206120, 0x616e6577, 0x3b636c61, 0x696d2061), 20);
        Check.due("2 feed", x.feed(0x3b000000, 0, 0, 0, 0), 40);
        Check.due("2 end", x.end(21), true);
        Check.due("2 read", x.read(), 1);
        for (int k = 1; k <= 20; k++) {
            Check.due("2 feed", x.feed(-1, Integer.MIN_VALUE, Integer.MAX_VALUE, 1, 2), 20 * k);
        }
        Check.due("2 feed of a full tape", x.feed(1, 2, 3, 4, 5), -1);
        Check.due("2 none came", x.end(401), false);
        Check.due("2 all there", x.end(400), true);
        Check.due("2 end", x.end(381), true);
        Check.due("2 feed, 401 would be", x.feed(1, 2, 3, 4, 5), -1);
        Check.due("2 end", x.end(380), true);
        Check.due("2 feed, 400 will be", x.feed(1, 2, 3, 4, 5), 400);
    }

    private static void end() {
        RemandTree x = new RemandTree();
        Check.due("3 end(0) of none", x.end(0), true);
        Check.due("3 end(1) of none", x.end(1), false);
        x.feed(0x20202020, 0x20202020, 0x20202020, 0x20202020, 0x20202020);
        Check.due("3 end(-1)", x.end(-1), false);
        Check.due("3 end(MIN)", x.end(Integer.MIN_VALUE), false);
        Check.due("3 end(21)", x.end(21), false);
        Check.due("3 end(MAX)", x.end(Integer.MAX_VALUE), false);
        Check.due("3 end(20)", x.end(20), true);
        Check.due("3 end(7)", x.end(7), true);
        Check.due("3 end(8)", x.end(8), false);
        Check.due("3 feed goes on behind", x.feed(0, 0, 0, 0, 0), 27);
        Check.thrown("3 read", IllegalArgumentException.class, () -> x.read());
        Check.due("3 fault behind seven blanks", x.fault(), 7);
    }

    private static void read() {
        RemandTree x = Check.of(A + "issue b anew;claim a or b;bars first 2 3 4;");
        Check.due("4 tape used up", x.end(1), false);
        Check.due("4 fault", x.fault(), -1);
        x.rule(0, 0, 0);
        x.rule(1, 0, 0);
        x.appeal(0, 0);
        x.tell(2, 0, 9);
        x.tree();
        Check.tape(x, "claim q;");
        Check.thrown("4 wrong text", IllegalArgumentException.class, () -> x.read());
        Check.due("4 tape used up all the same", x.end(1), false);
        Check.due("4 fault", x.fault(), 6);
        Check.due("4 the text before stands", x.count(0), 2);
        Check.due("4 its nodes too", x.count(1), 2);
        Check.due("4 now too", x.count(2), 1);
        Check.due("4 its bars too", x.bar(1, 2), 4);
        Check.due("4 a bar told too", x.bar(2, 0), 9);
        Check.due("4 its names too", x.name(1, 0), 'b');
        Check.due("4 its claim too", x.count(9), 2);
        Check.tape(x, "issue zz clear;claim not zz;");
        Check.due("4 in place of it", x.read(), 1);
        Check.due("4 fault", x.fault(), -1);
        Check.due("4 node 0 alone", x.count(1), 1);
        Check.due("4 now", x.count(2), 0);
        Check.due("4 open", x.node(0, 4), 1);
        Check.due("4 mandate", x.node(0, 3), 1);
        Check.due("4 nothing settled", x.node(0, 5), 0);
        Check.due("4 bars anew", x.bar(1, 2), 7);
        Check.due("4 a bar told is gone", x.bar(2, 0), 1);
        Check.due("4 name", x.name(0, 1), 'z');
        Check.due("4 claim", x.count(9), 1);
        Check.due("4 written stays", Check.written(x), "0r(1a)");
        Check.thrown("4 an empty tape", IllegalArgumentException.class, () -> x.read());
        Check.due("4 its fault", x.fault(), 0);
    }

    private static void fault(String text, int want) {
        Check.due("5 fault of '" + text + "'", Check.faultOf(text), want);
    }

    /** The fault is at the sign ^, which is not of the text; at its end, where that stands there. */
    private static void faultAt(String marked) {
        int at = marked.indexOf('^');
        fault(marked.substring(0, at) + marked.substring(at + 1), at);
    }

    private static void faultsOfLines() {
        Check.due("5 ahead of any", new RemandTree().fault(), -1);
        for (String marked : new String[] {
            "^", "   ^", "issue^", "issue ^", "issue a^", "issue a anew^", "issue a anew;^", "issue a anew; \n^",
            "issue a anew;claim^", "issue a anew;claim a^", "issue a anew;claim a ^",
            "issue a anew;claim a;^;", "issue a anew;claim a;^x", "issue a anew;claim a;^anew", "^;", "^Issue a anew;",
            "^issuea anew;", "^issu a anew;", "^1", "issue a anew;claim a;^\0", "issue a anew;^\u00e9",
            "issue a anew^,claim a;", "issue a anew;claim a;bars^", "\rissue a anew;claim a;".replace("\r", "^\r")}) {
            faultAt(marked);
        }
        fault("issue a anew;claim a;", -1);
        fault(" \n\tissue\ta\nanew ; claim a ; \t\n", -1);
        fault("issue a anew;bars second 0 0 0;claim a;issue b anew rests a;bars second 9 9 9;", -1);
    }

    private static void faultsOfNames() {
        for (String word : new String[] {"issue", "anew", "choice", "clear", "rests", "bars", "first", "second", "claim",
            "or", "and", "not", "of", "abcdefg", "A", "1", ";", "secondx"}) {
            fault("issue " + word + " anew;", 6);
        }
        for (String word : new String[] {"abcdef", "ore", "no", "o", "ofs", "issu", "issues", "claims", "zzzzzz"}) {
            fault("issue " + word + " anew;claim " + word + ";", -1);
        }
        for (String marked : new String[] {
            "issue a^1 anew;", "issue a ^fresh;", "issue a ^an", "issue a anew ^clear;", "issue a anew rests^",
            "issue a anew rests^;", "issue a anew rests ^a;", "issue a anew rests ^b;", A + "issue ^a clear;",
            A + "issue b anew rests a ^b;", A + "issue b anew rests a,^;", A + "issue b anew rests a,^a;",
            A + "issue b anew rests ^b;", A + "issue b anew rests a,^or;", A + "issue ab anew rests ^ab;claim a;",
            A + "issue b anew rests a^", A + "issue b anew rests ^aa;claim a;"}) {
            faultAt(marked);
        }
        StringBuilder eight = new StringBuilder();
        for (char c = 'a'; c <= 'h'; c++) {
            eight.append("issue ").append(c).append(" anew;");
        }
        fault(eight + "claim h;", -1);
        faultAt(eight + "^issue i anew;claim a;");
        faultAt(eight + "claim a;^issue");
    }

    private static void faultsOfBars() {
        for (String marked : new String[] {
            "bars ^third 1 2 3;", "bars ^1 2 3;", "bars first ^12 3 4;", "bars first 1 ^23 4;", "bars first 1 2^;",
            "bars first 1 2 3 ^4;", "bars first 1 2 3^", "bars first 1 2 ^x;", "bars^;", "bars first^", "bars second 1 2 3;^",
            "bars first 1^,2,3;"}) {
            faultAt(marked);
        }
        fault("issue a anew;claim a;bars first 0 9 5;", -1);
    }

    private static void faultsOfClaims() {
        for (String marked : new String[] {
            "claim ^x;", A + "claim a;^claim a;", A + "claim^;", A + "claim (^);", A + "claim (a^;", A + "claim a^);",
            A + "claim a or^;", A + "claim a and^ ;".replace("^ ;", " ^;"), A + "claim not^;", A + "claim a ^b;",
            A + "claim ^b;issue b anew;", A + "claim a ^not a;", A + "claim ^or a;", A + "claim a^,a;", A + "claim a or ^or a;",
            A + "claim ^22 of (a);", A + "claim 2 ^(a);", A + "claim 2 of ^a;", A + "claim 2 of (^);", A + "claim 2 of (a,^);",
            A + "claim 2 of (a^;", A + "claim 2 of (a ^a);", A + "claim 2 of^", A + "claim 2^", A + "claim 2 of (a)^",
            A + "claim ^of (a);", A + "claim a ^o", A + "claim ^issue;", A + "claim ^aa;"}) {
            faultAt(marked);
        }
        fault(A + "claim 2of(a,a)and(a)or not(a);", -1);
        StringBuilder many = new StringBuilder(A + "claim a");
        for (int k = 2; k <= 40; k++) {
            many.append(" or a");
        }
        fault(many + ";", -1);
        faultAt(many + " or ^a;");
        faultAt(many + " or ^b;");
        fault(A + "claim ((((((a)))))) and ((((((a))))));", -1);
        faultAt(A + "claim ((((((^(a)))))));");
        fault(A + "claim not not not not not not a;", -1);
        faultAt(A + "claim not not not not not not ^not a;");
        fault(A + "claim not(not(not(a or a)or a)or a);", -1);
        faultAt(A + "claim not(not(not(^not a)));");
        faultAt(A + "claim not(not(not(1 of ^(a))));");
        fault(A + "claim not(not(1 of(not a,a)));", -1);
        faultAt(A + "claim not(not(1 of(not^(a),a)));");
        faultAt(A + "claim 1 of(a,1 of(a,1 of(a,1 of(a,1 of(a,1 of(a,1 of^(a)))))));");
        fault(A + "claim 1 of(a,1 of(a,1 of(a,1 of(a,1 of(a,1 of(a))))));", -1);
    }

    private static void claim(String claim, int waysOfZero) {
        RemandTree x = Check.of("issue a anew;issue b anew;issue c anew;claim " + claim + ";");
        Check.due("4 ways(0) of " + claim, x.ways(0), waysOfZero);
        Check.due("4 ways(1) of " + claim, x.ways(1), 8 - waysOfZero);
    }

    private static void claims() {
        claim("a", 4);
        claim("a or b and c", 5);
        claim("(a or b) and c", 3);
        claim("not a and b", 2);
        claim("not (a and b)", 6);
        claim("not not a and not b", 2);
        claim("0 of (a)", 8);
        claim("2 of (a)", 0);
        claim("1 of (a, b, c)", 7);
        claim("2 of (a, b, c)", 4);
        claim("3 of (a, b, c)", 1);
        claim("2 of (a, a, b)", 4);
        claim("2 of (a or b, c and a, not c)", 5);
        claim("1 of (a, not a)", 8);
        claim("9 of (a, b, c, a, b, c, a, b, c)", 1);
        RemandTree x = Check.of("issue a anew;issue b anew;issue c anew;issue d anew;issue e anew;issue f anew;"
            + "issue g anew;issue h anew;claim 4 of (a,b,c,d,e,f,g,h) and not (g and h);");
        Check.due("4 ways of eight", x.ways(0), 163 - 57);
        Check.due("4 names", x.count(9), 10);
        StringBuilder forty = new StringBuilder("issue a anew;issue b anew;claim 1 of (a");
        for (int k = 2; k <= 39; k++) {
            forty.append(",a");
        }
        RemandTree y = Check.of(forty + ",b);");
        Check.due("4 forty at once", y.count(9), 40);
        Check.due("4 the fortieth counts", y.ways(0), 3);
    }

    private static void issueAndName() {
        RemandTree x = Check.of(FOUR);
        int[] standards = {0, 1, 2, 0};
        int[] rests = {0, 1, 2, 5};
        int[] above = {14, 12, 8, 0};
        for (int k = 0; k < 4; k++) {
            Check.due("6 standard", x.issue(k, 0), standards[k]);
            Check.due("6 rests", x.issue(k, 1), rests[k]);
            Check.due("6 what rests on it", x.issue(k, 2), above[k]);
        }
        Check.thrown("6 what 3", NoSuchElementException.class, () -> x.issue(0, 3));
        Check.thrown("6 what -1", NoSuchElementException.class, () -> x.issue(0, -1));
        Check.thrown("6 issue 4", IndexOutOfBoundsException.class, () -> x.issue(4, 0));
        Check.thrown("6 issue -1, what 3", IndexOutOfBoundsException.class, () -> x.issue(-1, 3));
        Check.due("7 name", x.name(1, 0), 'b');
        Check.due("7 name", x.name(1, 2), 'd');
        Check.due("7 behind", x.name(1, 3), -1);
        Check.due("7 far behind", x.name(1, Integer.MAX_VALUE), -1);
        Check.due("7 below", x.name(1, -1), -1);
        Check.due("7 one letter", x.name(3, 1), -1);
        Check.thrown("7 issue 4", IndexOutOfBoundsException.class, () -> x.name(4, 0));
        Check.thrown("7 issue -1", IndexOutOfBoundsException.class, () -> x.name(-1, 0));
        RemandTree y = Check.of("issue abcdef anew;claim abcdef;");
        Check.due("7 sixth letter", y.name(0, 5), 'f');
        Check.due("7 behind the sixth", y.name(0, 6), -1);
    }

    private static void bars() {
        RemandTree x = Check.of(A + "bars first 2 3 4;bars first 5 6 8;claim a;bars second 0 9 1;");
        int[] first = {5, 6, 8};
        int[] second = {0, 9, 1};
        for (int k = 0; k < 3; k++) {
            Check.due("8 first", x.bar(1, k), first[k]);
            Check.due("8 second", x.bar(2, k), second[k]);
            Check.due("8 without", new RemandTree().bar(2, k), 1 + 3 * k);
        }
        int[][] none = {{0, 0}, {3, 0}, {-1, 0}, {1, 3}, {1, -1}, {2, 3}};
        for (int[] of : none) {
            Check.thrown("8 none", IllegalArgumentException.class, () -> x.bar(of[0], of[1]));
            Check.thrown("9 none", IllegalArgumentException.class, () -> x.tell(of[0], of[1], 1));
        }
        Check.thrown("9 n is 10", IllegalArgumentException.class, () -> x.tell(1, 0, 10));
        Check.thrown("9 n is -1", IllegalArgumentException.class, () -> x.tell(1, 0, -1));
        Check.due("9 nothing changed", x.bar(1, 0), 5);
        Check.due("9 was", x.tell(1, 0, 9), 5);
        Check.due("9 was", x.tell(1, 0, 0), 9);
        Check.due("9 is", x.bar(1, 0), 0);
        Check.due("9 others stay", x.bar(1, 1) * 100 + x.bar(2, 0), 600);
        x.tell(1, 0, 4);
        x.rule(0, 1, 4);
        x.keep(0, 0);
        Check.due("9 an error by the bar", x.due(0, true), 1);
        Check.due("9 node", x.appeal(1, 0), 1);
        Check.due("9 reversed", x.node(1, 2), 2);
        x.tell(1, 0, 5);
        Check.due("9 nodes stay", x.node(1, 2), 2);
        x.go(0);
        Check.due("9 no error now", x.due(0, true), 0);
        Check.due("9 heard all the same", x.due(0, false), 1);
        Check.due("9 affirmed now", x.preview(1, 0, 0), 0);
    }
}
