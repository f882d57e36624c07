/** Boundary cases of what Terms says of exceptions, for all methods at once. */
final class RefusalEdges {
    private static final Object IT = Edge.IT;
    private static final Object[][] BY_ISSUE = {{"issue", IT, 0}, {"name", IT, 0}, {"rule", IT, 0, 0}, {"keep", IT, 0}, {"leak", IT},
        {"why", IT, 0}, {"decided", 2, IT, 0}, {"times", 2, IT, 0}};
    private static final Object[][] BY_NODE = {{"go", IT}, {"node", IT, 0}, {"decided", IT, 0, 0}, {"times", IT, 0, 0}, {"write", IT},
        {"tally", IT, 0, 0}, {"unlike", IT, 0}, {"unlike", 0, IT}, {"widened", IT}, {"path", IT, 0}, {"common", IT, 0},
        {"common", 0, IT}, {"child", IT, 0}};
    private static final Object[][] BY_SIDE = {{"rule", 1, IT, 0}, {"keep", 0, IT}, {"why", 0, IT}, {"due", IT, true}, {"due", IT, false},
        {"ways", IT}};
    private static final Object[][] BY_SET = {{"appeal", IT, 0}, {"appeal", 0, IT}, {"preview", IT, 0, 0}, {"preview", 0, IT, 0},
        {"pages", IT}};
    private static final Object[][] BY_PAGES = {{"best", IT, true}, {"best", IT, false}, {"secure", IT, 0, 0}, {"secure", 0, IT, 0},
        {"chain", IT, 0}};
    private static final Object[][] BY_WHAT = {{"issue", 2, IT, 3}, {"preview", 0, 0, IT, 5}, {"secure", 0, 0, IT, 3}, {"chain", 0, IT, 3},
        {"fates", IT, 4}, {"node", 2, IT, 15}, {"decided", 2, 0, IT, 4}, {"times", 2, 0, IT, 3}};

    private RefusalEdges() {
    }

    static void run() {
        index();
        sides();
        flaws();
        sets();
        pages();
        whats();
        order();
    }

    private static Object[] argumentsOf(Object[] call, int length, int number) {
        Object[] out = new Object[length - 1];
        for (int k = 1; k < length; k++) {
            out[k - 1] = call[k] == IT ? (Object) number : call[k];
        }
        return out;
    }

    /** Refused for these numbers, not so for those. */
    private static void hold(Edge.Made made, Object[] call, Class<?> want, int[] none, int... taken) {
        String name = (String) call[0];
        for (int number : none) {
            Edge.refused(made, want, name, argumentsOf(call, call.length, number));
        }
        for (int number : taken) {
            Object answer = Edge.ask(made.make(), name, argumentsOf(call, call.length, number));
            Check.due(name + " takes " + number, want.equals(answer), false);
        }
    }

    private static void index() {
        Edge.says(Edge.TERMS, "IndexOutOfBoundsException: there is no such ISSUE, NODE.");
        for (Object[] call : BY_ISSUE) {
            hold(Scenes::roundOver, call, Edge.INDEX, new int[] {Edge.MIN, -2, -1, 3, 4, 8, Edge.MAX}, 0, 1, 2);
        }
        for (Object[] call : BY_NODE) {
            hold(Scenes::roundOver, call, Edge.INDEX, new int[] {Edge.MIN, -2, -1, 3, 4, 40, Edge.MAX}, 0, 1, 2);
            hold(Scenes::full, call, Edge.INDEX, new int[] {Edge.MIN, -1, 40, 41, Edge.MAX}, 0, 38, 39);
        }
    }

    private static void sides() {
        Edge.says(Edge.TERMS, "SIDES are 0 and 1.");
        for (Object[] call : BY_SIDE) {
            Edge.Made made = call[0].equals("rule") || call[0].equals("keep") ? Scenes::open : Scenes::over;
            hold(made, call, Edge.ARGUMENT, new int[] {Edge.MIN, -1, 2, 3, Edge.MAX}, 0, 1);
        }
        hold(Scenes::over, new Object[] {"tally", 0, IT, 0}, Edge.ARGUMENT, new int[] {Edge.MIN, -2, 2, Edge.MAX}, -1, 0, 1);
    }

    private static void flaws() {
        Edge.says(Edge.TERMS, "IllegalArgumentException: a number is none (a SIDE, a FLAW, a set of ISSUES that there are not); a text is wrong.");
        hold(Scenes::open, new Object[] {"rule", 1, 0, IT}, Edge.ARGUMENT, new int[] {Edge.MIN, -1, 10, 99, Edge.MAX}, 0, 9);
        hold(Scenes::open, new Object[] {"tell", 1, 0, IT}, Edge.ARGUMENT, new int[] {Edge.MIN, -1, 10, 99, Edge.MAX}, 0, 9);
        hold(Scenes::open, new Object[] {"bar", IT, 0}, Edge.ARGUMENT, new int[] {Edge.MIN, -1, 0, 3, Edge.MAX}, 1, 2);
        hold(Scenes::open, new Object[] {"bar", 1, IT}, Edge.ARGUMENT, new int[] {Edge.MIN, -1, 3, Edge.MAX}, 0, 1, 2);
        hold(Scenes::open, new Object[] {"tally", 0, 0, IT}, Edge.ARGUMENT, new int[] {Edge.MIN, -2, 3, Edge.MAX}, -1, 0, 2);
    }

    private static void sets() {
        Edge.says(Edge.TERMS, "Sets of ISSUES are bits.");
        for (Object[] call : BY_SET) {
            hold(Scenes::over, call, Edge.ARGUMENT, new int[] {Edge.MIN, -8, -1, 8, 9, 16, 1 << 30, Edge.MAX}, 0, 1, 4, 7);
            hold(Scenes::full, call, Edge.ARGUMENT, new int[] {Edge.MIN, -1, 2, 3, Edge.MAX}, 0, 1);
            hold(Scenes::bare, call, Edge.ARGUMENT, new int[] {Edge.MIN, -1, 1, Edge.MAX}, 0);
        }
    }

    private static void pages() {
        Edge.says(17, "IllegalArgumentException: the pages are none");
        for (Object[] call : BY_PAGES) {
            hold(Scenes::over, call, Edge.ARGUMENT, new int[] {Edge.MIN, -1, 100, 101, Edge.MAX}, 0, 1, 98, 99);
        }
    }

    private static void whats() {
        Edge.says(Edge.TERMS, "NoSuchElementException: there is none such, another what.");
        for (Object[] call : BY_WHAT) {
            int oneTooMany = (Integer) call[call.length - 1];
            String name = (String) call[0];
            for (int number : new int[] {Edge.MIN, -2, -1, oneTooMany, oneTooMany + 1, Edge.MAX}) {
                Edge.refused(Scenes::roundOver, Edge.SUCH, name, argumentsOf(call, call.length - 1, number));
            }
            for (int number = 0; number < oneTooMany; number++) {
                Object answer = Edge.ask(Scenes.roundOver(), name, argumentsOf(call, call.length - 1, number));
                Check.due(name + " takes " + number, answer instanceof Integer, true);
            }
        }
    }

    /** All that can be wrong is, then one thing less, and so on. */
    private static void order() {
        Edge.says(Edge.TERMS, "Of several exceptions the one told first is thrown");
        Edge.Made now = Scenes::second;
        Object[][] calls = {
            {Edge.INDEX, "issue", 3, 3}, {Edge.SUCH, "issue", 2, 3},
            {Edge.INDEX, "rule", 3, 2, 10}, {Edge.ARGUMENT, "rule", 2, 2, 0}, {Edge.ARGUMENT, "rule", 2, 0, 10}, {Edge.STATE, "rule", 2, 0, 9},
            {Edge.INDEX, "keep", 3, 2}, {Edge.ARGUMENT, "keep", 2, 2}, {Edge.STATE, "keep", 2, 1},
            {Edge.INDEX, "leak", 3}, {Edge.STATE, "leak", 2},
            {Edge.ARGUMENT, "appeal", 8, 0}, {Edge.ARGUMENT, "appeal", 0, 8}, {Edge.STATE, "appeal", 7, 7},
            {Edge.ARGUMENT, "preview", 8, 0, 5}, {Edge.ARGUMENT, "preview", 0, 8, 5}, {Edge.STATE, "preview", 7, 7, 5},
            {Edge.ARGUMENT, "best", 100, true}, {Edge.STATE, "best", 99, true},
            {Edge.INDEX, "why", 3, 2}, {Edge.ARGUMENT, "why", 2, 2}, {Edge.STATE, "why", 2, 1},
            {Edge.ARGUMENT, "due", 2, true}, {Edge.STATE, "due", 1, true},
            {Edge.ARGUMENT, "secure", 100, 0, 3}, {Edge.ARGUMENT, "secure", 0, 100, 3}, {Edge.STATE, "secure", 99, 99, 3},
            {Edge.ARGUMENT, "chain", 100, 3}, {Edge.STATE, "chain", 99, 3}, {Edge.STATE, "fates", 4},
            {Edge.INDEX, "node", 5, 15}, {Edge.SUCH, "node", 4, 15},
            {Edge.INDEX, "decided", 5, 3, 4}, {Edge.INDEX, "decided", 4, 3, 4}, {Edge.INDEX, "decided", 5, 2, 4}, {Edge.SUCH, "decided", 4, 2, 4},
            {Edge.INDEX, "times", 5, 3, 3}, {Edge.INDEX, "times", 4, 3, 3}, {Edge.INDEX, "times", 5, 2, 3}, {Edge.SUCH, "times", 4, 2, 3},
            {Edge.INDEX, "tally", 5, 2, 3}, {Edge.ARGUMENT, "tally", 4, 2, 2}, {Edge.ARGUMENT, "tally", 4, 1, 3}};
        for (Object[] call : calls) {
            Object[] arguments = new Object[call.length - 2];
            System.arraycopy(call, 2, arguments, 0, arguments.length);
            Edge.refused(now, (Class<?>) call[0], (String) call[1], arguments);
        }
        Edge.refused(Scenes::over, Edge.SUCH, "preview", 7, 7, 5);
        Edge.refused(Scenes::over, Edge.SUCH, "secure", 99, 99, 3);
        Edge.refused(Scenes::over, Edge.SUCH, "chain", 99, 3);
        Edge.refused(Scenes::over, Edge.SUCH, "fates", 4);
    }
}
