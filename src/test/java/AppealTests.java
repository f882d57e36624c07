import java.util.NoSuchElementException;

/** Promises 10 to 24: rounds below, appeals, what would come of briefs. */
public final class AppealTests {
    private static final Class<IndexOutOfBoundsException> INDEX = IndexOutOfBoundsException.class;
    private static final Class<IllegalArgumentException> ARGUMENT = IllegalArgumentException.class;
    private static final Class<IllegalStateException> STATE = IllegalStateException.class;
    private static final Class<NoSuchElementException> SUCH = NoSuchElementException.class;

    private AppealTests() {
    }

    public static void main(String[] args) {
        rule();
        keep();
        leakAndSettled();
        leakThatIsNotHeard();
        flawNine();
        reversedAndSecondLevel();
        affirmedOtherwise();
        turnedAndOpen();
        reversedWithOpen();
        crossNotCounted();
        openThatLeaks();
        appealAndRound();
        fullTree();
        go();
        preview();
        best();
        why();
        due();
        pages();
        secure();
        chain();
        swing();
        fates();
        Check.close("AppealTests");
    }

    private static RemandTree anew(String claim) {
        return Check.of("issue a anew;issue b anew;issue c anew;claim " + claim + ";");
    }

    /** Rules an issue, and who lost it keeps it. */
    private static void keptRule(RemandTree x, int issue, int side, int flaw) {
        x.rule(issue, side, flaw);
        x.keep(issue, 1 - side);
    }

    /** Node 0: b is for 1, so are c and the claim; all is kept. */
    private static RemandTree lostByZero() {
        RemandTree x = Check.of("issue a anew;issue b anew;issue c choice;claim a and b;");
        keptRule(x, 0, 0, 3);
        keptRule(x, 1, 1, 5);
        keptRule(x, 2, 1, 6);
        return x;
    }

    /** Node 2 is a round for a alone, in which b is settled; node 1 was remanded. */
    private static RemandTree settledRound(int flawOfB, boolean keepsB) {
        RemandTree x = Check.of("issue a choice;issue b choice;claim a or b;");
        keptRule(x, 0, 1, 5);
        x.rule(1, 1, flawOfB);
        if (keepsB) {
            x.keep(1, 0);
        }
        Check.due("appeal", x.appeal(1, 0), 1);
        Check.due("remanded", x.node(1, 2), 3);
        Check.due("round", x.round(), 2);
        return x;
    }

    private static void rule() {
        RemandTree x = Check.of("issue a anew;issue b anew rests a;issue c anew rests a,b;claim a and b and c;");
        Check.thrown("10 issue 3", INDEX, () -> x.rule(3, 9, 99));
        Check.thrown("10 issue -1", INDEX, () -> x.rule(-1, 0, 0));
        Check.thrown("10 side 2", ARGUMENT, () -> x.rule(1, 2, 0));
        Check.thrown("10 side -1", ARGUMENT, () -> x.rule(1, -1, 0));
        Check.thrown("10 flaw 10", ARGUMENT, () -> x.rule(1, 0, 10));
        Check.thrown("10 flaw -1", ARGUMENT, () -> x.rule(1, 0, -1));
        Check.thrown("10 a is open", STATE, () -> x.rule(1, 0, 0));
        Check.due("10 a", x.rule(0, 0, 9), 2);
        Check.thrown("10 b is open", STATE, () -> x.rule(2, 0, 0));
        Check.due("10 b", x.rule(1, 1, 0), 1);
        Check.thrown("10 decided", STATE, () -> x.rule(1, 0, 0));
        Check.due("10 c", x.rule(2, 1, 4), 0);
        Check.due("10 for whom", x.decided(0, 1, 0), 1);
        Check.due("10 flaw", x.decided(0, 2, 1), 4);
        x.appeal(0, 0);
        Check.thrown("10 no round", STATE, () -> x.rule(0, 0, 0));
        Check.thrown("10 no round, side 2", ARGUMENT, () -> x.rule(0, 2, 0));
        RemandTree y = settledRound(5, true);
        Check.thrown("10 not of the mandate", STATE, () -> y.rule(1, 0, 0));
        Check.due("10 nobody keeps it", y.node(2, 12), 2);
        Check.due("10 again", y.rule(0, 1, 2), 0);
        Check.due("10 nobody keeps it now", y.node(2, 12), 2);
        Check.due("10 flaw now", y.decided(2, 0, 1), 2);
        Check.due("10 flaw then", y.decided(0, 0, 1), 5);
    }

    private static void keep() {
        RemandTree x = anew("a");
        Check.thrown("11 open", STATE, () -> x.keep(0, 0) ? 1 : 0);
        x.rule(0, 1, 2);
        Check.thrown("11 issue 3", INDEX, () -> x.keep(3, 5) ? 1 : 0);
        Check.thrown("11 side 2", ARGUMENT, () -> x.keep(1, 2) ? 1 : 0);
        Check.thrown("11 side -1", ARGUMENT, () -> x.keep(0, -1) ? 1 : 0);
        Check.thrown("11 who won it", STATE, () -> x.keep(0, 1) ? 1 : 0);
        Check.due("11 new", x.keep(0, 0), true);
        Check.due("11 not new", x.keep(0, 0), false);
        Check.due("11 kept", x.node(0, 12), 1);
        Check.due("11 by the other", x.node(0, 13), 0);
        x.rule(1, 0, 0);
        x.rule(2, 0, 0);
        Check.due("11 by 1", x.keep(2, 1), true);
        x.appeal(0, 0);
        Check.thrown("11 no round", STATE, () -> x.keep(1, 1) ? 1 : 0);
        x.go(0);
        Check.due("11 gone back to", x.keep(1, 1), true);
        Check.due("11 there", x.node(0, 13), 6);
        Check.due("11 what came stays", x.node(1, 13), 4);
        RemandTree y = settledRound(5, false);
        Check.thrown("11 ruled in an earlier round", STATE, () -> y.keep(1, 0) ? 1 : 0);
    }

    private static void leakAndSettled() {
        RemandTree x = settledRound(5, true);
        Check.due("13 settled", x.node(1, 5), 2);
        Check.due("14 mandate", x.node(2, 3), 1);
        Check.due("14 settled stays", x.node(2, 5), 2);
        Check.thrown("12 issue 2", INDEX, () -> x.leak(2) ? 1 : 0);
        Check.thrown("12 issue -1", INDEX, () -> x.leak(-1) ? 1 : 0);
        Check.thrown("12 open", STATE, () -> x.leak(0) ? 1 : 0);
        x.rule(0, 1, 2);
        Check.thrown("12 not settled", STATE, () -> x.leak(0) ? 1 : 0);
        Check.due("18 settled", x.why(1, 0), 2);
        Check.due("18 not kept", x.why(0, 0), 3);
        Check.due("16 nothing heard", x.preview(3, 0, 2), 0);
        Check.due("12 new", x.leak(1), true);
        Check.due("12 not new", x.leak(1), false);
        Check.due("12 leaks", x.node(2, 6), 2);
        Check.due("12 still settled", x.node(2, 5), 2);
        Check.thrown("12 is not ruled by that", STATE, () -> x.rule(1, 0, 0));
        Check.due("18 leaks", x.why(1, 0), 0);
        Check.due("13 from the round", x.appeal(2, 0), 3);
        Check.due("13 remanded", x.node(3, 2), 3);
        Check.due("13 leaks no more", x.node(3, 6), 0);
        Check.due("13 the round leaks still", x.node(2, 6), 2);
        Check.due("13 settled but for what is open", x.node(3, 5), 1);
        Check.thrown("12 no round", STATE, () -> x.leak(0) ? 1 : 0);
        Check.due("14 round", x.round(), 4);
        Check.due("14 mandate", x.node(4, 3), 2);
        Check.due("35 widened", x.widened(4), 2);
        Check.due("35 narrower", x.widened(2), 0);
        Check.due("35 no round", x.widened(3), 0);
        Check.due("35 node 0", x.widened(0), 0);
        Check.due("25 rounds", x.node(4, 14), 3);
    }

    private static void leakThatIsNotHeard() {
        RemandTree x = settledRound(5, true);
        x.rule(0, 1, 2);
        x.leak(1);
        x.appeal(0, 0);
        Check.due("13 affirmed", x.node(3, 2), 0);
        Check.due("13 what lost is settled, briefed or not", x.node(3, 5), 3);
        Check.due("13 leaks on", x.node(3, 6), 2);
        Check.due("18 kept, leaks, not briefed", x.why(1, 0), 3);
        Check.due("18 not settled ahead of level 1, not kept", x.why(0, 0), 3);
        x.go(2);
        x.appeal(1, 0);
        Check.due("13 not heard", x.preview(1, 0, 2), 0);
        RemandTree y = Check.of("issue a choice;issue b choice;claim a or b;bars first 0 5 0;");
        keptRule(y, 0, 1, 5);
        keptRule(y, 1, 1, 5);
        y.appeal(1, 0);
        y.round();
        y.rule(0, 1, 2);
        y.leak(1);
        y.tell(1, 1, 9);
        y.appeal(2, 0);
        Check.due("13 heard, no error: affirmed", y.node(3, 2), 0);
        Check.due("13 leaks no more", y.node(3, 6), 0);
        Check.due("18 settled ahead of level 1, leaks no more", y.why(1, 0), 2);
    }

    private static void flawNine() {
        RemandTree x = settledRound(9, false);
        x.rule(0, 1, 8);
        Check.due("18 settled, 9", x.why(1, 0), 0);
        Check.due("18 plain", x.why(0, 0), 0);
        RemandTree y = settledRound(8, true);
        y.rule(0, 1, 7);
        Check.due("18 settled, 8", y.why(1, 0), 2);
        Check.due("18 7 is not plain", y.why(0, 0), 3);
        x.appeal(0, 0);
        Check.due("18 level 2, plain, not briefed", x.why(0, 0), 0);
        Check.due("18 level 2, settled ahead, 9", x.why(1, 0), 0);
        y.appeal(0, 0);
        Check.due("18 level 2, settled ahead, 8", y.why(1, 0), 2);
    }

    private static void reversedAndSecondLevel() {
        RemandTree x = lostByZero();
        Check.due("13 node", x.appeal(2, 0), 1);
        Check.due("13 now", x.count(2), 1);
        int[] want = {1, 0, 2, 0, 0, 6, 0, 0, 0, 2, 2, 0, 4, 1, 1};
        for (int k = 0; k < want.length; k++) {
            Check.due("13 node(1, " + k + ")", x.node(1, k), want[k]);
        }
        Check.due("13 turned for", x.decided(1, 1, 0), 0);
        Check.due("13 9 less", x.decided(1, 1, 1), 4);
        Check.due("13 level", x.decided(1, 1, 2), 1);
        Check.due("13 where", x.decided(1, 1, 3), 1);
        Check.thrown("14 not remanded", STATE, () -> x.round());
        Check.due("18 kept, not briefed at level 1", x.why(0, 1), 3);
        Check.due("18 turned there", x.why(1, 1), 0);
        Check.due("18 not against it", x.why(1, 0), 1);
        Check.due("18 kept, not briefed", x.why(2, 0), 3);
        Check.due("16 back again", x.preview(0, 2, 0), 2);
        Check.due("13 level 2", x.appeal(0, 2), 2);
        int[] second = {2, 1, 2, 0, 0, 6, 0, 1, 1, 2, 0, 2, 4, 1, 1};
        for (int k = 0; k < second.length; k++) {
            Check.due("13 node(2, " + k + ")", x.node(2, k), second[k]);
        }
        Check.due("13 flaw again", x.decided(2, 1, 1), 5);
        for (int level = 0; level <= 2; level++) {
            Check.due("27 times", x.times(2, 1, level), 1);
            Check.due("27 times", x.times(2, 0, level), level == 0 ? 1 : 0);
        }
        Check.thrown("13 from level 2", STATE, () -> x.appeal(0, 0));
        Check.thrown("14 reversed", STATE, () -> x.round());
        Check.thrown("22 no round", STATE, () -> x.chain(1, 9));
    }

    private static void affirmedOtherwise() {
        RemandTree x = lostByZero();
        Check.due("16 how", x.preview(2, 1, 0), 1);
        Check.due("16 errors", x.preview(2, 1, 1), 3);
        Check.due("16 heard", x.preview(2, 1, 2), 3);
        Check.due("16 turned", x.preview(2, 1, 3), 0);
        x.appeal(2, 1);
        int[] want = {1, 0, 1, 0, 0, 7, 0, 1, 0, 0, 2, 1, 6, 1, 1};
        for (int k = 0; k < want.length; k++) {
            Check.due("13 node(1, " + k + ")", x.node(1, k), want[k]);
        }
        Check.due("31 written", x.write(1), Check.written(x).length());
        Check.due("31 written", Check.written(x), "first affirmed otherwise a=0! b=1! c=1!");
        Check.due("18 kept and briefed", x.why(1, 0), 0);
        Check.due("18 kept and briefed by 1", x.why(0, 1), 0);
        Check.due("18 kept alone", x.why(2, 0), 3);
        Check.due("13 level 2", x.appeal(2, 0), 2);
        Check.due("13 reversed there", x.node(2, 2), 2);
        Check.due("25 level", x.node(2, 0), 2);
    }

    private static void turnedAndOpen() {
        RemandTree x = Check.of("issue a anew;issue b anew rests a;issue c clear rests b;claim b;");
        keptRule(x, 0, 1, 3);
        keptRule(x, 1, 1, 3);
        keptRule(x, 2, 0, 0);
        int[] want = {3, 3, 3, 1, 6};
        for (int k = 0; k < 5; k++) {
            Check.due("16 preview(3, 0, " + k + ")", x.preview(3, 0, k), want[k]);
        }
        x.appeal(3, 0);
        Check.due("25 turned alone", x.node(1, 9), 1);
        Check.due("25 open", x.node(1, 4), 6);
        Check.due("25 settled", x.node(1, 5), 1);
        Check.due("25 nobody keeps", x.node(1, 12) + x.node(1, 13), 0);
        Check.due("26 flaw", x.decided(1, 0, 1), 6);
        for (int k = 0; k < 4; k++) {
            Check.due("26 open", x.decided(1, 1, k), -1);
        }
        Check.due("27 turned, then open", x.times(1, 1, 1), 0);
        x.round();
        Check.due("14 open as it begins", x.node(2, 4), 6);
        Check.thrown("10 b is open", STATE, () -> x.rule(2, 0, 0));
        Check.due("10 b", x.rule(1, 0, 0), 1);
        Check.due("10 c", x.rule(2, 0, 0), 0);
        Check.due("27 ruled twice", x.times(2, 1, 0), 2);
        Check.due("27 a once", x.times(2, 0, 0), 1);
        Check.due("27 a turned", x.times(2, 0, 1), 1);
    }

    private static void reversedWithOpen() {
        RemandTree x = Check.of("issue a anew;issue b anew rests a;claim a;");
        keptRule(x, 0, 1, 3);
        x.rule(1, 0, 0);
        x.appeal(1, 0);
        Check.due("13 reversed", x.node(1, 2), 2);
        Check.due("25 open behind it", x.node(1, 3), 2);
        Check.due("25 open", x.node(1, 4), 2);
        Check.due("25 sure all the same", x.node(1, 7), 0);
        Check.thrown("14 not remanded", STATE, () -> x.round());
        Check.due("30 ways", x.ways(0), 2);
        Check.due("30 ways", x.ways(1), 0);
        Check.due("29 pivotal", x.pivotal(), 0);
        Check.due("28 harmless", x.harmless(), 0);
        Check.due("23 swing", x.swing(true), 1);
        Check.due("18 open", x.why(1, 1), 1);
        Check.due("16 open then", x.preview(0, 0, 4), 2);
        Check.due("16 back", x.preview(0, 1, 0), 2);
        Check.due("13 level 2", x.appeal(0, 0), 2);
        Check.due("13 as ahead", x.node(2, 4), 2);
        Check.due("13 settled but for it", x.node(2, 5), 1);
        Check.due("31 write", x.write(2), 23);
        Check.due("31 written", Check.written(x), "second affirmed a=0! b?");
    }

    /** Affirmed by what who appeals has alone: what the other side has heard does not count. */
    private static void crossNotCounted() {
        RemandTree x = lostByZero();
        Check.due("16 how", x.preview(4, 1, 0), 0);
        Check.due("16 heard", x.preview(4, 1, 2), 4);
        Check.due("16 errors", x.preview(4, 1, 1), 4);
        Check.due("16 open", x.preview(4, 1, 4), 0);
        x.appeal(4, 1);
        Check.due("13 a is not settled", x.node(1, 5), 6);
        Check.due("13 it is kept", x.node(1, 13), 1);
        Check.due("18 briefed at level 1 all the same", x.why(0, 1), 0);
        x.appeal(0, 0);
        Check.due("13 at level 2 what was lost is not settled by itself", x.node(2, 5), 6);
    }

    /** What leaks and is open again by what it rests on was not heard: it leaks on. */
    private static void openThatLeaks() {
        RemandTree x = Check.of("issue a choice;issue b choice;issue c choice rests b;claim a or b or c;");
        keptRule(x, 0, 1, 5);
        keptRule(x, 1, 1, 9);
        x.rule(2, 1, 0);
        x.appeal(1, 0);
        x.round();
        Check.due("25 settled", x.node(2, 5), 6);
        x.rule(0, 1, 0);
        x.leak(2);
        x.appeal(2, 0);
        Check.due("25 open", x.node(3, 4), 6);
        Check.due("25 leaks", x.node(3, 6), 4);
        Check.due("25 settled", x.node(3, 5), 1);
    }

    private static void appealAndRound() {
        RemandTree x = lostByZero();
        Check.thrown("13 a set", ARGUMENT, () -> x.appeal(8, 0));
        Check.thrown("13 a set", ARGUMENT, () -> x.appeal(0, 8));
        Check.thrown("13 a set", ARGUMENT, () -> x.appeal(-1, 0));
        Check.thrown("13 a set", ARGUMENT, () -> x.appeal(0, Integer.MIN_VALUE));
        Check.due("13 nothing came", x.count(1), 1);
        Check.thrown("14 a round", STATE, () -> x.round());
        RemandTree y = anew("a or b");
        y.rule(0, 0, 0);
        Check.due("25 sure", y.node(0, 7), 0);
        Check.thrown("13 not over", STATE, () -> y.appeal(0, 0));
        Check.thrown("13 not over, a set", ARGUMENT, () -> y.appeal(9, 0));
        RemandTree z = settledRound(5, true);
        Check.thrown("13 not over", STATE, () -> z.appeal(0, 0));
        z.go(1);
        Check.thrown("13 remanded", STATE, () -> z.appeal(0, 0));
        Check.due("14 another round", z.round(), 3);
        Check.due("14 ahead", z.node(3, 1), 1);
        Check.due("14 briefed", z.node(3, 10) + z.node(3, 11), 0);
        Check.due("14 how", z.node(3, 2), -1);
        Check.due("14 appellant", z.node(3, 8), -1);
        Check.due("14 turned", z.node(3, 9), 0);
        RemandTree w = Check.of("issue a choice;claim a;bars first 9 9 9;");
        keptRule(w, 0, 1, 5);
        w.appeal(1, 0);
        w.appeal(1, 0);
        Check.due("13 remanded at level 2", w.node(2, 2), 3);
        Check.due("14 behind level 2", w.round(), 3);
        Check.due("14 mandate", w.node(3, 3), 1);
    }

    private static void fullTree() {
        RemandTree x = Check.of("issue a choice;claim a;");
        keptRule(x, 0, 1, 5);
        for (int k = 1; k <= 39; k++) {
            x.go(0);
            Check.due("13 node", x.appeal(1, 0), k);
        }
        Check.thrown("14 40 nodes", STATE, () -> x.round());
        x.go(0);
        Check.thrown("13 40 nodes", STATE, () -> x.appeal(1, 0));
        Check.thrown("13 40 nodes, a set", ARGUMENT, () -> x.appeal(2, 0));
        Check.due("16 not for 40 nodes", x.preview(1, 0, 0), 3);
        Check.due("41 nodes", x.count(1), 40);
        Check.due("41 remanded", x.count(8), 39);
        Check.due("36 leaf", x.leaf(38), 39);
        Check.due("36 none", x.leaf(39), -1);
        Check.due("40 child", x.child(0, 38), 39);
        Check.due("37 tree", x.tree(), 9 * 2 + 30 * 3 + 38 + 4);
    }

    private static void go() {
        RemandTree x = lostByZero();
        x.appeal(2, 0);
        Check.thrown("15 node 2", INDEX, () -> x.go(2));
        Check.thrown("15 node -1", INDEX, () -> x.go(-1));
        Check.due("15 still", x.count(2), 1);
        Check.due("15 was", x.go(0), 1);
        Check.due("15 is", x.count(2), 0);
        Check.due("15 was", x.go(0), 0);
        Check.due("15 gone on from", x.appeal(0, 0), 2);
        Check.due("15 ahead", x.node(2, 1), 0);
    }

    private static void preview() {
        RemandTree x = lostByZero();
        Check.thrown("16 what 5", SUCH, () -> x.preview(0, 0, 5));
        Check.thrown("16 what -1", SUCH, () -> x.preview(0, 0, -1));
        Check.thrown("16 set, what", ARGUMENT, () -> x.preview(8, 0, 5));
        Check.thrown("16 set", ARGUMENT, () -> x.preview(0, -8, 0));
        int[] want = {2, 6, 6, 2, 4};
        for (int k = 0; k < 5; k++) {
            Check.due("16 preview(7, 0, " + k + ")", x.preview(7, 0, k), want[k]);
        }
        Check.due("16 nothing comes", x.count(1), 1);
        RemandTree y = anew("a");
        Check.thrown("16 not over, what", STATE, () -> y.preview(0, 0, 9));
        Check.thrown("16 not over, set", ARGUMENT, () -> y.preview(8, 0, 9));
    }

    private static void best() {
        RemandTree x = Check.of("issue a choice;issue b anew;issue c anew rests b;claim a or c;");
        for (int k = 0; k < 3; k++) {
            keptRule(x, k, 1, 5);
        }
        Check.due("17 none", x.best(0, true), 0);
        Check.due("17 how", x.best(0, false), 0);
        Check.due("17 one page", x.best(1, true), 1);
        Check.due("17 how", x.best(1, false), 3);
        Check.due("17 two pages", x.best(2, true), 4);
        Check.due("17 how", x.best(2, false), 2);
        Check.due("17 many pages", x.best(99, true), 4);
        Check.thrown("17 pages", ARGUMENT, () -> x.best(100, true));
        Check.thrown("17 pages", ARGUMENT, () -> x.best(-1, false));
        RemandTree y = anew("a and b or b and c or c and a");
        for (int k = 0; k < 3; k++) {
            keptRule(y, k, 1, 5);
        }
        Check.due("17 least as bits", y.best(9, true), 3);
        Check.due("17 one alone is of no use", y.best(1, true), 0);
        RemandTree z = anew("a");
        Check.thrown("17 not over", STATE, () -> z.best(1, true));
        Check.thrown("17 not over, pages", ARGUMENT, () -> z.best(100, true));
        RemandTree w = anew("a and b or c");
        keptRule(w, 0, 1, 5);
        keptRule(w, 1, 1, 5);
        keptRule(w, 2, 1, 5);
        Check.due("17 the fewest", w.best(9, true), 4);
        RemandTree v = anew("not a");
        keptRule(v, 0, 1, 0);
        keptRule(v, 1, 0, 5);
        keptRule(v, 2, 0, 5);
        Check.due("17 for side 1, no error", v.best(9, true), 0);
        v.tell(1, 0, 0);
        Check.due("17 not against side 1", v.best(9, true), 0);
    }

    private static void why() {
        RemandTree x = lostByZero();
        Check.thrown("18 issue", INDEX, () -> x.why(3, 5));
        Check.thrown("18 issue", INDEX, () -> x.why(-1, 0));
        Check.thrown("18 side", ARGUMENT, () -> x.why(0, 2));
        Check.thrown("18 side", ARGUMENT, () -> x.why(0, -1));
        Check.due("18 not against it", x.why(0, 0), 1);
        Check.due("18 heard", x.why(0, 1), 0);
        Check.due("18 heard", x.why(1, 0), 0);
        RemandTree y = anew("a");
        Check.thrown("18 not over", STATE, () -> y.why(0, 0));
        Check.thrown("18 not over, side", ARGUMENT, () -> y.why(0, 2));
        y.rule(0, 1, 7);
        y.rule(1, 1, 8);
        y.rule(2, 1, 9);
        Check.due("18 not kept", y.why(0, 0), 3);
        Check.due("18 plain", y.why(1, 0), 0);
        Check.due("18 plain", y.why(2, 0), 0);
    }

    private static void due() {
        RemandTree x = lostByZero();
        Check.due("19 side 0", x.due(0, false), 6);
        Check.due("19 side 1", x.due(1, false), 1);
        x.tell(1, 1, 7);
        Check.due("19 errors", x.due(0, true), 2);
        Check.due("19 heard", x.due(0, false), 6);
        x.tell(1, 1, 6);
        Check.due("19 the bar itself", x.due(0, true), 6);
        Check.thrown("19 side", ARGUMENT, () -> x.due(2, true));
        Check.thrown("19 side", ARGUMENT, () -> x.due(-1, false));
        x.appeal(2, 0);
        x.tell(2, 0, 5);
        Check.due("19 level 2", x.due(1, false), 2);
        Check.due("19 bar of level 2", x.due(1, true), 0);
        x.tell(2, 0, 4);
        Check.due("19 bar of level 2", x.due(1, true), 2);
        RemandTree y = anew("a");
        Check.thrown("19 not over", STATE, () -> y.due(0, true));
        Check.thrown("19 not over, side", ARGUMENT, () -> y.due(2, true));
    }

    private static void pages() {
        RemandTree x = Check.of("issue a anew;issue b anew;issue c anew rests a,b;issue d anew rests c;claim a;");
        Check.due("20 none", x.pages(0), 0);
        Check.due("20 a", x.pages(1), 1);
        Check.due("20 c", x.pages(4), 3);
        Check.due("20 d rests on one", x.pages(8), 2);
        Check.due("20 all", x.pages(15), 7);
        Check.thrown("20 set", ARGUMENT, () -> x.pages(16));
        Check.thrown("20 set", ARGUMENT, () -> x.pages(-1));
        Check.thrown("20 set", ARGUMENT, () -> new RemandTree().pages(1));
    }

    private static void secured(RemandTree x, int own, int others, int set, int how, int answer) {
        String call = "21 secure(" + own + ", " + others + ", ";
        Check.due(call + "0)", x.secure(own, others, 0), set);
        Check.due(call + "1)", x.secure(own, others, 1), how);
        Check.due(call + "2)", x.secure(own, others, 2), answer);
    }

    private static void secure() {
        RemandTree x = anew("a and c or b");
        keptRule(x, 0, 1, 5);
        keptRule(x, 1, 1, 5);
        keptRule(x, 2, 0, 5);
        secured(x, 9, 0, 1, 2, 0);
        secured(x, 9, 9, 2, 2, 0);
        secured(x, 0, 9, 0, 0, 0);
        RemandTree y = anew("a and c");
        keptRule(y, 0, 1, 5);
        keptRule(y, 1, 1, 5);
        keptRule(y, 2, 0, 5);
        secured(y, 9, 9, 0, 0, 0);
        secured(y, 1, 0, 1, 2, 0);
        RemandTree z = Check.of("issue a anew;issue b choice;issue c choice;claim a and b and c;");
        keptRule(z, 0, 1, 5);
        keptRule(z, 1, 0, 5);
        keptRule(z, 2, 0, 5);
        secured(z, 1, 1, 1, 3, 2);
        secured(z, 1, 2, 1, 3, 2);
        secured(z, 99, 99, 1, 3, 2);
        secured(z, 99, 0, 1, 2, 0);
        RemandTree fewest = anew("a and b or c");
        for (int k = 0; k < 3; k++) {
            keptRule(fewest, k, 1, 5);
        }
        secured(fewest, 99, 99, 4, 2, 0);
        Check.thrown("21 own", ARGUMENT, () -> z.secure(100, 0, 9));
        Check.thrown("21 others", ARGUMENT, () -> z.secure(0, -1, 0));
        Check.thrown("21 what", SUCH, () -> z.secure(0, 0, 3));
        Check.thrown("21 what", SUCH, () -> z.secure(0, 0, -1));
        RemandTree w = anew("a");
        Check.thrown("21 not over, what", STATE, () -> w.secure(0, 0, 9));
        Check.thrown("21 not over, pages", ARGUMENT, () -> w.secure(0, 100, 9));
    }

    private static void chained(RemandTree x, int pages, int how, int first, int second) {
        String call = "22 chain(" + pages + ", ";
        Check.due(call + "0)", x.chain(pages, 0), how);
        Check.due(call + "1)", x.chain(pages, 1), first);
        Check.due(call + "2)", x.chain(pages, 2), second);
    }

    private static void chain() {
        RemandTree x = Check.of("issue a clear;claim a;bars second 9 9 3;");
        keptRule(x, 0, 1, 5);
        chained(x, 0, 0, 0, 0);
        chained(x, 1, 3, 1, 1);
        RemandTree y = Check.of("issue a choice;claim a;bars second 1 1 1;");
        keptRule(y, 0, 1, 5);
        chained(y, 9, 3, 1, -1);
        RemandTree z = Check.of("issue a anew;issue b choice;claim a or b;bars first 9 4 7;");
        keptRule(z, 0, 1, 5);
        keptRule(z, 1, 1, 5);
        chained(z, 9, 2, 1, 1);
        chained(z, 0, 0, 0, 0);
        RemandTree plain = Check.of("issue a anew;claim a;bars first 9 9 9;");
        plain.rule(0, 1, 8);
        chained(plain, 9, 2, 0, 1);
        RemandTree both = Check.of("issue a anew;issue b anew;issue c anew;claim a and b or c and b;bars first 9 9 9;");
        for (int k = 0; k < 3; k++) {
            keptRule(both, k, 1, 4);
        }
        chained(both, 2, 2, 3, 3);
        chained(both, 1, 0, 0, 0);
        RemandTree fewest = anew("a and b or c");
        for (int k = 0; k < 3; k++) {
            keptRule(fewest, k, 1, 5);
        }
        chained(fewest, 99, 2, 4, -1);
        fewest.tell(1, 0, 9);
        chained(fewest, 99, 2, 4, 4);
        RemandTree second = Check.of("issue a anew;issue b anew;claim a and b;bars first 9 9 9;");
        keptRule(second, 0, 0, 5);
        second.rule(1, 0, 8);
        chained(second, 9, 2, 0, 2);
        second.tell(2, 0, 9);
        chained(second, 9, 0, 0, 0);
        RemandTree one = Check.of("issue b anew;issue a anew;claim a;bars first 9 9 9;");
        keptRule(one, 0, 0, 5);
        keptRule(one, 1, 0, 5);
        chained(one, 9, 2, 2, 2);
        Check.thrown("22 pages", ARGUMENT, () -> x.chain(100, 9));
        Check.thrown("22 pages", ARGUMENT, () -> x.chain(-1, 0));
        Check.thrown("22 what", SUCH, () -> x.chain(0, 3));
        Check.thrown("22 what", SUCH, () -> x.chain(0, -1));
        RemandTree w = anew("a");
        Check.thrown("22 not over", STATE, () -> w.chain(0, 3));
        x.appeal(0, 0);
        Check.thrown("22 no round", STATE, () -> x.chain(0, 3));
        Check.thrown("22 no round, pages", ARGUMENT, () -> x.chain(100, 3));
        Check.due("22 changed nothing", x.count(1), 2);
    }

    private static void swing() {
        RemandTree x = anew("a and b or c");
        Check.due("23 not sure", x.swing(false), -1);
        x.rule(0, 0, 0);
        x.rule(2, 1, 0);
        Check.due("23 not sure yet", x.swing(true), -1);
        x.rule(1, 1, 0);
        Check.due("23 how many", x.swing(false), 1);
        Check.due("23 least", x.swing(true), 2);
        RemandTree y = anew("a and b and c");
        y.rule(2, 1, 0);
        Check.due("23 by open ones it is not sure", y.swing(false), -1);
        y.rule(0, 0, 0);
        y.rule(1, 1, 0);
        Check.due("23 two", y.swing(false), 2);
        Check.due("23 which", y.swing(true), 6);
        RemandTree z = anew("1 of (a, not a)");
        z.rule(0, 0, 0);
        Check.due("23 none", z.swing(true), -1);
        Check.due("23 no issues", new RemandTree().swing(true), -1);
    }

    private static void fates() {
        RemandTree x = Check.of("issue a choice;issue b anew;issue c anew;claim a or b;");
        keptRule(x, 0, 1, 5);
        keptRule(x, 1, 1, 5);
        x.rule(2, 1, 5);
        Check.due("24 affirmed", x.fates(0), 2);
        Check.due("24 otherwise", x.fates(1), 0);
        Check.due("24 reversed", x.fates(2), 4);
        Check.due("24 remanded", x.fates(3), 2);
        Check.thrown("24 how", SUCH, () -> x.fates(4));
        Check.thrown("24 how", SUCH, () -> x.fates(-1));
        RemandTree y = anew("a");
        Check.thrown("24 not over", STATE, () -> y.fates(4));
    }
}
