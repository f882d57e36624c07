import java.util.NoSuchElementException;

/** Appeals by issues: a text of issues, rounds below, appeals, and the tree of all that. */
public final class RemandTree {
    public static final int NONE = -1;

    private static final int SIDES = 2;
    private static final int STANDARDS = 3;
    private static final int LEVELS = 2;
    private static final int MOST_ISSUES = 8;
    private static final int MOST_NODES = 40;
    private static final int MOST_BYTES = 400;
    private static final int MOST_FLAW = 9;
    private static final int PLAIN_FLAW = 8;
    private static final int MOST_PAGES = 99;
    private static final int NAME_LENGTH = 6;
    private static final int BYTES_FED = 20;

    private static final int AFFIRMED = 0;
    private static final int AFFIRMED_OTHERWISE = 1;
    private static final int REVERSED = 2;
    private static final int REMANDED = 3;

    private final int[] tape = new int[MOST_BYTES];
    private int tapeLength = 0;
    private int fault = NONE;
    private final Reader reader = new Reader();
    private Text text = new Text();
    private final Node[] nodes = new Node[MOST_NODES];
    private int nodeCount = 1;
    private int now = 0;
    private final Court court = new Court();
    private final Planner planner = new Planner();
    private final Page page = new Page();

    public RemandTree() {
        for (int k = 0; k < MOST_NODES; k++) {
            nodes[k] = new Node();
        }
        beginAnew();
    }

    private void beginAnew() {
        nodes[0].beginAll(text.all());
        nodeCount = 1;
        now = 0;
    }

    // ---- the text

    public int feed(int a, int b, int c, int d, int e) {
        if (tapeLength + BYTES_FED > MOST_BYTES) {
            return NONE;
        }
        putOnTape(a);
        putOnTape(b);
        putOnTape(c);
        putOnTape(d);
        putOnTape(e);
        return tapeLength;
    }

    private void putOnTape(int number) {
        for (int shift = 24; shift >= 0 && tapeLength < MOST_BYTES; shift -= 8) {
            tape[tapeLength] = (number >>> shift) & 255;
            tapeLength++;
        }
    }

    public boolean end(int n) {
        if (n < 0 || n > tapeLength) {
            return false;
        }
        tapeLength = n;
        return true;
    }

    public int read() throws IllegalArgumentException {
        int length = tapeLength;
        tapeLength = 0;
        fault = reader.faultOf(tape, length);
        if (fault != NONE) {
            throw new IllegalArgumentException("the text is wrong");
        }
        text = reader.exchange(text);
        beginAnew();
        return text.issues;
    }

    public int fault() {
        return fault;
    }

    public int issue(int issue, int what) throws IndexOutOfBoundsException, NoSuchElementException {
        needIssue(issue);
        switch (what) {
            case 0: return text.standard[issue];
            case 1: return text.rests[issue];
            case 2: return text.above[issue];
            default: throw new NoSuchElementException("another what");
        }
    }

    public int name(int issue, int k) throws IndexOutOfBoundsException {
        needIssue(issue);
        return text.letterOf(issue, k);
    }

    public int bar(int level, int standard) throws IllegalArgumentException {
        needBar(level, standard);
        return text.bars[barPlace(level, standard)];
    }

    public int tell(int level, int standard, int n) throws IllegalArgumentException {
        needBar(level, standard);
        if (n < 0 || n > MOST_FLAW) {
            throw new IllegalArgumentException("no such bar");
        }
        int place = barPlace(level, standard);
        int was = text.bars[place];
        text.bars[place] = n;
        return was;
    }

    private static int barPlace(int level, int standard) {
        return (level - 1) * STANDARDS + standard;
    }

    // ---- rounds

    public int rule(int issue, int side, int flaw)
            throws IndexOutOfBoundsException, IllegalArgumentException, IllegalStateException {
        needIssue(issue);
        needSide(side);
        if (flaw < 0 || flaw > MOST_FLAW) {
            throw new IllegalArgumentException("no such flaw");
        }
        Node round = nodes[now];
        boolean may = round.level == 0 && (round.mandate & round.open & 1 << issue) != 0;
        if (!may || (text.rests[issue] & round.open) != 0) {
            throw new IllegalStateException("it cannot be ruled");
        }
        round.decideIssue(issue, side, flaw, now);
        return Integer.bitCount(round.mandate & round.open);
    }

    public boolean keep(int issue, int side)
            throws IndexOutOfBoundsException, IllegalArgumentException, IllegalStateException {
        needIssue(issue);
        needSide(side);
        Node round = nodes[now];
        int ruledAgainst = round.decidedHere() & round.decidedFor(1 - side);
        if (round.level != 0 || (ruledAgainst & 1 << issue) == 0) {
            throw new IllegalStateException("it was not ruled against that side here");
        }
        return round.addKept(side, 1 << issue);
    }

    public boolean leak(int issue) throws IndexOutOfBoundsException, IllegalStateException {
        needIssue(issue);
        Node round = nodes[now];
        int bit = 1 << issue;
        if (round.level != 0 || (round.settled & bit) == 0) {
            throw new IllegalStateException("it is not settled in a round");
        }
        boolean fresh = (round.leaks & bit) == 0;
        round.leaks |= bit;
        return fresh;
    }

    // ---- appeals

    public int appeal(int zero, int one) throws IllegalArgumentException, IllegalStateException {
        needSet(zero);
        needSet(one);
        needAppeal();
        needRoomForNode();
        court.judge(zero, one);
        court.makeNode(nodes[nodeCount], now, nodeCount);
        return takeNewNode();
    }

    public int round() throws IllegalStateException {
        Node from = nodes[now];
        if (from.level == 0 || from.how != REMANDED) {
            throw new IllegalStateException("no appeal that was remanded");
        }
        needRoomForNode();
        nodes[nodeCount].beginRound(from, now);
        return takeNewNode();
    }

    private int takeNewNode() {
        now = nodeCount;
        nodeCount++;
        return now;
    }

    public int go(int node) throws IndexOutOfBoundsException {
        needNode(node);
        int was = now;
        now = node;
        return was;
    }

    public int preview(int zero, int one, int what)
            throws IllegalArgumentException, IllegalStateException, NoSuchElementException {
        needSet(zero);
        needSet(one);
        needAppeal();
        court.judge(zero, one);
        switch (what) {
            case 0: return court.how;
            case 1: return court.countedErrors;
            case 2: return court.countedHeard;
            case 3: return court.turned;
            case 4: return court.open;
            default: throw new NoSuchElementException("another what");
        }
    }

    public int best(int pages, boolean set) throws IllegalArgumentException, IllegalStateException {
        needPages(pages);
        needAppeal();
        int found = court.bestSet(court.ownErrors(), pages);
        return set ? found : court.outcomeBy(found, 0);
    }

    public int why(int issue, int side)
            throws IndexOutOfBoundsException, IllegalArgumentException, IllegalStateException {
        needIssue(issue);
        needSide(side);
        needAppeal();
        return court.barredBy(issue, side);
    }

    public int due(int side, boolean errors) throws IllegalArgumentException, IllegalStateException {
        needSide(side);
        needAppeal();
        return errors ? court.errors[side] : court.heard[side];
    }

    public int pages(int set) throws IllegalArgumentException {
        needSet(set);
        return text.pagesOf(set);
    }

    public int secure(int own, int others, int what)
            throws IllegalArgumentException, IllegalStateException, NoSuchElementException {
        needPages(own);
        needPages(others);
        needAppeal();
        if (what < 0 || what > 2) {
            throw new NoSuchElementException("another what");
        }
        planner.findSecured(court, own, others);
        return what == 0 ? planner.firstSet : what == 1 ? planner.how : planner.secondSet;
    }

    public int chain(int pages, int what)
            throws IllegalArgumentException, IllegalStateException, NoSuchElementException {
        needPages(pages);
        if (nodes[now].level != 0) {
            throw new IllegalStateException("no round");
        }
        needAppeal();
        if (what < 0 || what > 2) {
            throw new NoSuchElementException("another what");
        }
        planner.findChain(court, pages);
        return what == 0 ? planner.how : what == 1 ? planner.firstSet : planner.secondSet;
    }

    public int swing(boolean set) {
        Node here = nodes[now];
        int winner = text.winnerBy(here.forZero, here.open);
        if (winner == NONE) {
            return NONE;
        }
        int decided = text.all() & ~here.open;
        int found = NONE;
        int flipped = 0;
        for (int k = 0; k < 1 << Integer.bitCount(decided); k++) {
            boolean swings = text.winnerBy(here.forZero ^ flipped, here.open) == 1 - winner;
            if (swings && (found == NONE || Integer.bitCount(flipped) < Integer.bitCount(found))) {
                found = flipped;
            }
            flipped = nextSubset(flipped, decided);
        }
        return found == NONE || set ? found : Integer.bitCount(found);
    }

    public int fates(int how) throws IllegalStateException, NoSuchElementException {
        needAppeal();
        if (how < AFFIRMED || how > REMANDED) {
            throw new NoSuchElementException("no such way to be");
        }
        return court.countSets(how);
    }

    // ---- what there is

    public int node(int node, int what) throws IndexOutOfBoundsException, NoSuchElementException {
        needNode(node);
        Node told = nodes[node];
        switch (what) {
            case 0: return told.level;
            case 1: return told.ahead;
            case 2: return told.how;
            case 3: return told.mandate;
            case 4: return told.open;
            case 5: return told.settled;
            case 6: return told.leaks;
            case 7: return text.winnerBy(told.forZero, told.open);
            case 8: return told.appellant;
            case 9: return told.turned;
            case 10: return told.briefedBy(0);
            case 11: return told.briefedBy(1);
            case 12: return told.keptBy(0);
            case 13: return told.keptBy(1);
            case 14: return told.rounds;
            default: throw new NoSuchElementException("another what");
        }
    }

    public int decided(int node, int issue, int what) throws IndexOutOfBoundsException, NoSuchElementException {
        needNode(node);
        needIssue(issue);
        if (what < 0 || what > 3) {
            throw new NoSuchElementException("another what");
        }
        Node told = nodes[node];
        if ((told.open & 1 << issue) != 0) {
            return NONE;
        }
        switch (what) {
            case 0: return told.sideOf(issue);
            case 1: return told.flaw[issue];
            case 2: return nodes[told.source[issue]].level;
            default: return told.source[issue];
        }
    }

    public int times(int node, int issue, int level) throws IndexOutOfBoundsException, NoSuchElementException {
        needNode(node);
        needIssue(issue);
        if (level < 0 || level > LEVELS) {
            throw new NoSuchElementException("another level");
        }
        int times = 0;
        int at = node;
        for (int steps = 0; steps < MOST_NODES && at != NONE; steps++) {
            Node passed = nodes[at];
            if (passed.level == level && (passed.decidedHere() & 1 << issue) != 0) {
                times++;
            }
            at = passed.ahead;
        }
        return times;
    }

    public int harmless() {
        Node here = nodes[now];
        int winner = text.winnerBy(here.forZero, here.open);
        int found = 0;
        for (int k = 0; k < text.issues && winner != NONE; k++) {
            int bit = 1 << k;
            boolean decided = (here.open & bit) == 0;
            if (decided && text.winnerBy(here.forZero ^ bit, here.open) == winner) {
                found |= bit;
            }
        }
        return found;
    }

    public int pivotal() {
        Node here = nodes[now];
        int found = 0;
        int chosen = 0;
        for (int k = 0; k < 1 << Integer.bitCount(here.open); k++) {
            found |= text.tellingAt(here.forZero | chosen, here.open);
            chosen = nextSubset(chosen, here.open);
        }
        return found;
    }

    public int ways(int side) throws IllegalArgumentException {
        needSide(side);
        Node here = nodes[now];
        int ways = 0;
        int chosen = 0;
        for (int k = 0; k < 1 << Integer.bitCount(here.open); k++) {
            if (text.holdsAt(here.forZero | chosen) == (side == 0)) {
                ways++;
            }
            chosen = nextSubset(chosen, here.open);
        }
        return ways;
    }

    public int write(int node) throws IndexOutOfBoundsException {
        needNode(node);
        Node told = nodes[node];
        page.clearAll();
        page.put(told.level == 0 ? "round" : told.level == 1 ? "first" : "second");
        if (told.level != 0) {
            page.put(endingOf(told.how));
        }
        for (int k = 0; k < text.issues; k++) {
            writeIssue(told, k);
        }
        return page.length;
    }

    private static String endingOf(int how) {
        switch (how) {
            case AFFIRMED: return " affirmed";
            case AFFIRMED_OTHERWISE: return " affirmed otherwise";
            case REVERSED: return " reversed";
            default: return " remanded";
        }
    }

    private void writeIssue(Node told, int issue) {
        page.putByte(' ');
        for (int k = 0; k < NAME_LENGTH && text.letterOf(issue, k) != NONE; k++) {
            page.putByte(text.letterOf(issue, k));
        }
        int bit = 1 << issue;
        if ((told.open & bit) != 0) {
            page.putByte('?');
        } else {
            page.putByte('=');
            page.putByte('0' + told.sideOf(issue));
        }
        if ((told.settled & bit) != 0) {
            page.putByte('!');
        }
    }

    public int octet(int k) {
        return k < 0 || k >= page.length ? NONE : page.bytes[k];
    }

    public int tally(int node, int side, int standard) throws IndexOutOfBoundsException, IllegalArgumentException {
        needNode(node);
        if (side != NONE) {
            needSide(side);
        }
        if (standard < NONE || standard >= STANDARDS) {
            throw new IllegalArgumentException("no such standard");
        }
        Node told = nodes[node];
        int among = side == NONE ? told.open : told.decidedFor(side);
        return Integer.bitCount(standard == NONE ? among : among & text.ofStandard(standard));
    }

    public int unlike(int node, int other) throws IndexOutOfBoundsException {
        needNode(node);
        needNode(other);
        Node left = nodes[node];
        Node right = nodes[other];
        return left.forZero ^ right.forZero | left.forOne ^ right.forOne;
    }

    public int widened(int node) throws IndexOutOfBoundsException {
        needNode(node);
        Node told = nodes[node];
        if (told.level != 0) {
            return 0;
        }
        int at = told.ahead;
        for (int steps = 0; steps < MOST_NODES && at != NONE; steps++) {
            Node passed = nodes[at];
            if (passed.level == 0) {
                return told.mandate & ~passed.mandate;
            }
            at = passed.ahead;
        }
        return 0;
    }

    public int leaf(int k) {
        int left = k;
        for (int at = 0; at < nodeCount && left >= 0; at++) {
            if (childAfter(at, at) == NONE) {
                if (left == 0) {
                    return at;
                }
                left--;
            }
        }
        return NONE;
    }

    public int tree() {
        page.clearAll();
        writeBranch(0, 0);
        return page.length;
    }

    private void writeBranch(int node, int depth) {
        if (depth >= MOST_NODES) {
            return;
        }
        page.putNumber(node);
        page.putByte(markOf(nodes[node]));
        int next = childAfter(node, node);
        if (next == NONE) {
            return;
        }
        page.putByte('(');
        for (int steps = 0; steps < MOST_NODES && next != NONE; steps++) {
            if (steps > 0) {
                page.putByte(',');
            }
            writeBranch(next, depth + 1);
            next = childAfter(node, next);
        }
        page.putByte(')');
    }

    private static int markOf(Node told) {
        switch (told.how) {
            case AFFIRMED: return 'a';
            case AFFIRMED_OTHERWISE: return 'o';
            case REVERSED: return 'v';
            case REMANDED: return 'm';
            default: return 'r';
        }
    }

    public int path(int node, int k) throws IndexOutOfBoundsException {
        needNode(node);
        int back = depthOf(node) - k;
        if (k < 0 || back < 0) {
            return NONE;
        }
        return goBack(node, back);
    }

    public int common(int node, int other) throws IndexOutOfBoundsException {
        needNode(node);
        needNode(other);
        int depth = Math.min(depthOf(node), depthOf(other));
        int left = goBack(node, depthOf(node) - depth);
        int right = goBack(other, depthOf(other) - depth);
        for (int steps = 0; steps < MOST_NODES && left != right; steps++) {
            left = nodes[left].ahead;
            right = nodes[right].ahead;
        }
        return left;
    }

    /** How many nodes are ahead of one on the way to it. */
    private int depthOf(int node) {
        int depth = 0;
        int at = nodes[node].ahead;
        for (int steps = 0; steps < MOST_NODES && at != NONE; steps++) {
            depth++;
            at = nodes[at].ahead;
        }
        return depth;
    }

    private int goBack(int node, int steps) {
        int at = node;
        for (int k = 0; k < steps && nodes[at].ahead != NONE; k++) {
            at = nodes[at].ahead;
        }
        return at;
    }

    public int child(int node, int k) throws IndexOutOfBoundsException {
        needNode(node);
        if (k < 0 || k >= MOST_NODES) {
            return NONE;
        }
        int found = childAfter(node, node);
        for (int left = k; left > 0 && found != NONE; left--) {
            found = childAfter(node, found);
        }
        return found;
    }

    /** The next node behind this number that has the told one ahead; NONE without. */
    private int childAfter(int node, int number) {
        for (int at = number + 1; at < nodeCount; at++) {
            if (nodes[at].ahead == node) {
                return at;
            }
        }
        return NONE;
    }

    public int count(int what) {
        switch (what) {
            case 0: return text.issues;
            case 1: return nodeCount;
            case 2: return now;
            case 3: return countNodes(NONE);
            case 4: return nodeCount - countNodes(NONE);
            case 5: return countNodes(AFFIRMED);
            case 6: return countNodes(AFFIRMED_OTHERWISE);
            case 7: return countNodes(REVERSED);
            case 8: return countNodes(REMANDED);
            case 9: return text.claimNames;
            case 10: return page.length;
            default: return NONE;
        }
    }

    /** How many nodes were so; rounds are NONE. */
    private int countNodes(int how) {
        int found = 0;
        for (int at = 0; at < nodeCount; at++) {
            if (nodes[at].how == how) {
                found++;
            }
        }
        return found;
    }

    // ---- what is asked of arguments and of now

    private void needIssue(int issue) {
        if (issue < 0 || issue >= text.issues) {
            throw new IndexOutOfBoundsException("no such issue");
        }
    }

    private void needNode(int node) {
        if (node < 0 || node >= nodeCount) {
            throw new IndexOutOfBoundsException("no such node");
        }
    }

    private static void needSide(int side) {
        if (side < 0 || side >= SIDES) {
            throw new IllegalArgumentException("no such side");
        }
    }

    private static void needBar(int level, int standard) {
        if (level < 1 || level > LEVELS || standard < 0 || standard >= STANDARDS) {
            throw new IllegalArgumentException("no such level or standard");
        }
    }

    private void needSet(int set) {
        if ((set & ~text.all()) != 0) {
            throw new IllegalArgumentException("no such issues");
        }
    }

    private static void needPages(int pages) {
        if (pages < 0 || pages > MOST_PAGES) {
            throw new IllegalArgumentException("no such pages");
        }
    }

    private void needRoomForNode() {
        if (nodeCount >= MOST_NODES) {
            throw new IllegalStateException("there are 40 nodes");
        }
    }

    /** Sets the court up for an appeal from now. */
    private void needAppeal() {
        Node from = nodes[now];
        Node before = from.ahead == NONE ? from : nodes[from.ahead];
        if (!court.sit(text, from, before)) {
            throw new IllegalStateException("no appeal can be made");
        }
    }

    /** Subsets come in the order of their bits, the empty one behind the last. */
    private static int nextSubset(int subset, int of) {
        return (subset - of) & of;
    }

    /** What is good for who appeals is higher. */
    private static int rankOf(int how) {
        return how == REVERSED ? 2 : how == REMANDED ? 1 : 0;
    }

    /** Whether a set is of fewer issues than another one, or of as many and less as bits. */
    private static boolean smaller(int set, int than) {
        int more = Integer.bitCount(set) - Integer.bitCount(than);
        return more < 0 || more == 0 && set < than;
    }

    /** What a text tells: issues, their standards, what rests on what, bars, the claim. */
    private static final class Text {
        /** Letters of name after name, 0 behind the last of each. */
        final int[] letters = new int[MOST_ISSUES * NAME_LENGTH];
        final int[] standard = new int[MOST_ISSUES];
        final int[] rests = new int[MOST_ISSUES];
        /** What rests on an issue, issue by issue on. */
        final int[] above = new int[MOST_ISSUES];
        /** As they are now: those of the text until others are told. */
        final int[] bars = new int[LEVELS * STANDARDS];
        /** Bit m of all 256: whether the claim holds with just the issues m decided for side 0. */
        final long[] truth = new long[Tables.WORDS];
        int issues;
        int claimNames;
        boolean claimed;

        Text() {
            wipe();
        }

        void wipe() {
            for (int k = 0; k < MOST_ISSUES * NAME_LENGTH; k++) {
                letters[k] = 0;
            }
            for (int k = 0; k < LEVELS * STANDARDS; k++) {
                bars[k] = 1 + k % STANDARDS * 3;
            }
            for (int k = 0; k < Tables.WORDS; k++) {
                truth[k] = 0L;
            }
            issues = 0;
            claimNames = 0;
            claimed = false;
        }

        int all() {
            return (1 << issues) - 1;
        }

        int letterOf(int issue, int k) {
            if (k < 0 || k >= NAME_LENGTH || letters[issue * NAME_LENGTH + k] == 0) {
                return NONE;
            }
            return letters[issue * NAME_LENGTH + k];
        }

        int ofStandard(int told) {
            int found = 0;
            for (int k = 0; k < issues; k++) {
                if (standard[k] == told) {
                    found |= 1 << k;
                }
            }
            return found;
        }

        int pagesOf(int set) {
            int pages = Integer.bitCount(set);
            for (int k = 0; k < issues; k++) {
                if ((set & 1 << k) != 0) {
                    pages += Integer.bitCount(rests[k]);
                }
            }
            return pages;
        }

        /** The latest issue is whole: those that it rests on learn of it. */
        void addIssue(int itsStandard, int itsRests) {
            if (issues >= MOST_ISSUES) {
                return;
            }
            standard[issues] = itsStandard;
            rests[issues] = itsRests;
            above[issues] = 0;
            for (int k = 0; k < issues; k++) {
                if ((itsRests & (1 << k | above[k])) != 0) {
                    above[k] |= 1 << issues;
                }
            }
            issues++;
        }

        /** Who wins however the open ones would be decided; NONE if that is not sure. */
        int winnerBy(int forZero, int open) {
            int closed = forZero & ~open;
            long every = -1L;
            long some = 0L;
            for (int k = 0; k < Tables.WORDS; k++) {
                int high = k << Tables.WORD_ISSUES & ~open;
                if (high == (closed >> Tables.WORD_ISSUES) << Tables.WORD_ISSUES) {
                    every &= truth[k];
                    some |= truth[k];
                }
            }
            for (int k = 0; k < Tables.WORD_ISSUES; k++) {
                if ((open & 1 << k) != 0) {
                    every &= every >>> (1 << k);
                    some |= some >>> (1 << k);
                }
            }
            int place = closed & Tables.WORD_MASK;
            if ((every >>> place & 1L) != 0L) {
                return 0;
            }
            return (some >>> place & 1L) == 0L ? 1 : NONE;
        }

        boolean holdsAt(int forZero) {
            int word = forZero >> Tables.WORD_ISSUES & Tables.WORDS - 1;
            return (truth[word] >>> (forZero & Tables.WORD_MASK) & 1L) != 0L;
        }

        /** Those of a set by each of which alone another side would win. */
        int tellingAt(int forZero, int among) {
            boolean holds = holdsAt(forZero);
            int found = 0;
            for (int k = 0; k < issues; k++) {
                if ((among & 1 << k) != 0 && holdsAt(forZero ^ 1 << k) != holds) {
                    found |= 1 << k;
                }
            }
            return found;
        }
    }

    /** Truth tables of a claim's parts, 64 decisions at once in each word: the latest part is on top. */
    private static final class Tables {
        static final int WORDS = 4;
        static final int WORD_ISSUES = 6;
        static final int WORD_MASK = 63;
        static final int MOST_NAMES = 40;
        private static final long[] NAMED = {
            0xAAAAAAAAAAAAAAAAL, 0xCCCCCCCCCCCCCCCCL, 0xF0F0F0F0F0F0F0F0L,
            0xFF00FF00FF00FF00L, 0xFFFF0000FFFF0000L, 0xFFFFFFFF00000000L
        };
        private final long[] rows = new long[MOST_NAMES * WORDS];
        /** Bit by bit, whether so many of the parts seen hold. */
        private final long[] reached = new long[10];
        private int height;

        void clearAll() {
            height = 0;
        }

        void pushName(int issue) {
            if (height >= MOST_NAMES) {
                return;
            }
            for (int k = 0; k < WORDS; k++) {
                rows[height * WORDS + k] = wordOf(issue, k);
            }
            height++;
        }

        private static long wordOf(int issue, int word) {
            if (issue >= 0 && issue < WORD_ISSUES) {
                return NAMED[issue];
            }
            return (word >> (issue - WORD_ISSUES) & 1) != 0 ? -1L : 0L;
        }

        void negateTop() {
            for (int k = 0; k < WORDS && height > 0; k++) {
                int place = (height - 1) * WORDS + k;
                rows[place] = ~rows[place];
            }
        }

        void joinTwo(boolean both) {
            if (height < 2) {
                return;
            }
            height--;
            for (int k = 0; k < WORDS; k++) {
                long right = rows[height * WORDS + k];
                int place = (height - 1) * WORDS + k;
                rows[place] = both ? rows[place] & right : rows[place] | right;
            }
        }

        void joinAtLeast(int needed, int parts) {
            if (parts < 1 || parts > height || needed < 0 || needed >= reached.length) {
                return;
            }
            int first = height - parts;
            for (int k = 0; k < WORDS; k++) {
                startCounting(needed);
                for (int row = first; row < height; row++) {
                    countOne(needed, rows[row * WORDS + k]);
                }
                rows[first * WORDS + k] = reached[needed];
            }
            height = first + 1;
        }

        private void startCounting(int needed) {
            reached[0] = -1L;
            for (int k = 1; k <= needed; k++) {
                reached[k] = 0L;
            }
        }

        private void countOne(int needed, long part) {
            for (int k = needed; k > 0; k--) {
                reached[k] |= reached[k - 1] & part;
            }
        }

        void copyTop(long[] into) {
            if (height > 0 && into.length >= WORDS) {
                System.arraycopy(rows, (height - 1) * WORDS, into, 0, WORDS);
            }
        }
    }

    /** Reads a text off the tape, token by token; a fault is where the token begins that cannot be. */
    private static final class Reader {
        private static final String KEYWORDS =
            "issue anew choice clear rests bars first second claim or and not of ";
        private static final int ISSUE = 0;
        private static final int ANEW = 1;
        private static final int CLEAR = 3;
        private static final int RESTS = 4;
        private static final int BARS = 5;
        private static final int FIRST = 6;
        private static final int SECOND = 7;
        private static final int CLAIM = 8;
        private static final int OR = 9;
        private static final int AND = 10;
        private static final int NOT = 11;
        private static final int OF = 12;
        private static final int NAME = 13;
        private static final int NUMBER = 14;
        private static final int END = 15;
        private static final int WRONG = 16;
        private static final int DEEPEST = 6;

        private final Tables tables = new Tables();
        private int[] bytes = new int[0];
        /** A text of its own, so that a wrong one leaves the one that stands alone. */
        private Text into = new Text();
        private int length;
        private int at;
        private int start;
        private int kind;

        /** Reads so many bytes: THE FAULT, NONE without one. */
        int faultOf(int[] tape, int itsLength) {
            bytes = tape;
            length = Math.min(itsLength, tape.length);
            at = 0;
            into.wipe();
            tables.clearAll();
            advance();
            for (int lines = 0; lines <= MOST_BYTES && kind != END; lines++) {
                boolean right = false;
                if (kind == ISSUE) {
                    right = into.issues < MOST_ISSUES && readIssue();
                } else if (kind == BARS) {
                    right = readBars();
                } else if (kind == CLAIM) {
                    right = !into.claimed && readClaim();
                }
                if (!right) {
                    return start;
                }
            }
            return into.claimed ? NONE : start;
        }

        /** Gives the text that was read, and takes another one to read into. */
        Text exchange(Text other) {
            Text read = into;
            into = other;
            return read;
        }

        private boolean readIssue() {
            advance();
            if (kind != NAME || findIssue() != NONE) {
                return false;
            }
            takeName();
            advance();
            if (kind < ANEW || kind > CLEAR) {
                return false;
            }
            int standard = kind - ANEW;
            advance();
            int rests = kind == RESTS ? readRests() : 0;
            if (rests == NONE || !pass(';')) {
                return false;
            }
            into.addIssue(standard, rests);
            return true;
        }

        private void takeName() {
            int slot = into.issues * NAME_LENGTH;
            for (int k = 0; k < NAME_LENGTH && start + k < at; k++) {
                into.letters[slot + k] = bytes[start + k];
            }
        }

        /** The issues behind rests as bits; NONE if one cannot be. */
        private int readRests() {
            int rests = 0;
            for (int k = 0; k <= MOST_ISSUES; k++) {
                advance();
                int found = kind == NAME ? findIssue() : NONE;
                if (found == NONE || (rests & 1 << found) != 0) {
                    return NONE;
                }
                rests |= 1 << found;
                advance();
                if (kind != ',') {
                    return rests;
                }
            }
            return NONE;
        }

        private boolean readBars() {
            advance();
            if (kind != FIRST && kind != SECOND) {
                return false;
            }
            int place = (kind - FIRST) * STANDARDS;
            advance();
            for (int k = 0; k < STANDARDS; k++) {
                if (kind != NUMBER) {
                    return false;
                }
                into.bars[place + k] = bytes[start] - '0';
                advance();
            }
            return pass(';');
        }

        private boolean readClaim() {
            advance();
            if (!readEither(0) || !pass(';')) {
                return false;
            }
            into.claimed = true;
            tables.copyTop(into.truth);
            return true;
        }

        /** E, so deep within not and brackets. */
        private boolean readEither(int depth) {
            if (!readBoth(depth)) {
                return false;
            }
            for (int k = 0; k < MOST_BYTES && kind == OR; k++) {
                advance();
                if (!readBoth(depth)) {
                    return false;
                }
                tables.joinTwo(false);
            }
            return true;
        }

        private boolean readBoth(int depth) {
            if (!readPart(depth)) {
                return false;
            }
            for (int k = 0; k < MOST_BYTES && kind == AND; k++) {
                advance();
                if (!readPart(depth)) {
                    return false;
                }
                tables.joinTwo(true);
            }
            return true;
        }

        private boolean readPart(int depth) {
            switch (kind) {
                case NOT: return depth < DEEPEST && readNot(depth);
                case NAME: return readNamed();
                case '(': return depth < DEEPEST && readBracket(depth);
                case NUMBER: return readSome(depth);
                default: return false;
            }
        }

        private boolean readNot(int depth) {
            advance();
            if (!readPart(depth + 1)) {
                return false;
            }
            tables.negateTop();
            return true;
        }

        private boolean readNamed() {
            int found = findIssue();
            if (found == NONE || into.claimNames >= Tables.MOST_NAMES) {
                return false;
            }
            into.claimNames++;
            tables.pushName(found);
            advance();
            return true;
        }

        private boolean readBracket(int depth) {
            advance();
            return readEither(depth + 1) && pass(')');
        }

        private boolean readSome(int depth) {
            int needed = bytes[start] - '0';
            advance();
            if (!pass(OF) || kind != '(' || depth >= DEEPEST) {
                return false;
            }
            int parts = 0;
            do {
                advance();
                if (!readEither(depth + 1)) {
                    return false;
                }
                parts++;
            } while (kind == ',' && parts < MOST_BYTES);
            if (!pass(')')) {
                return false;
            }
            tables.joinAtLeast(needed, parts);
            return true;
        }

        /** Goes on behind a token, if it is this one. */
        private boolean pass(int wanted) {
            if (kind != wanted) {
                return false;
            }
            advance();
            return true;
        }

        private void advance() {
            for (int k = 0; k < MOST_BYTES && at < length && isBlank(bytes[at]); k++) {
                at++;
            }
            start = at;
            if (at >= length) {
                kind = END;
            } else if (isLetter(bytes[at])) {
                for (int k = 0; k < MOST_BYTES && at < length && isLetter(bytes[at]); k++) {
                    at++;
                }
                kind = kindOfWord();
            } else if (isDigit(bytes[at])) {
                for (int k = 0; k < MOST_BYTES && at < length && isDigit(bytes[at]); k++) {
                    at++;
                }
                kind = at - start == 1 ? NUMBER : WRONG;
            } else {
                kind = isSign(bytes[at]) ? bytes[at] : WRONG;
                at++;
            }
        }

        private static boolean isBlank(int sign) {
            return sign == 9 || sign == 10 || sign == 32;
        }

        private static boolean isLetter(int sign) {
            return sign >= 'a' && sign <= 'z';
        }

        private static boolean isDigit(int sign) {
            return sign >= '0' && sign <= '9';
        }

        /** The signs of a text are kinds by their own numbers, all above the other kinds. */
        private static boolean isSign(int sign) {
            return sign == ';' || sign == ',' || sign == '(' || sign == ')';
        }

        private int kindOfWord() {
            int word = 0;
            int begins = 0;
            for (int k = 0; k < KEYWORDS.length(); k++) {
                if (KEYWORDS.charAt(k) == ' ') {
                    if (isKeyword(begins, k)) {
                        return word;
                    }
                    word++;
                    begins = k + 1;
                }
            }
            return at - start <= NAME_LENGTH ? NAME : WRONG;
        }

        private boolean isKeyword(int begins, int ends) {
            if (ends - begins != at - start) {
                return false;
            }
            for (int k = 0; k < ends - begins; k++) {
                if (KEYWORDS.charAt(begins + k) != bytes[start + k]) {
                    return false;
                }
            }
            return true;
        }

        /** The issue that bears the name at hand; NONE without. */
        private int findIssue() {
            for (int issue = 0; issue < into.issues; issue++) {
                if (isNameOf(issue)) {
                    return issue;
                }
            }
            return NONE;
        }

        private boolean isNameOf(int issue) {
            for (int k = 0; k < NAME_LENGTH; k++) {
                int letter = start + k < at ? bytes[start + k] : NONE;
                if (into.letterOf(issue, k) != letter) {
                    return false;
                }
            }
            return true;
        }
    }

    /** A round (level 0) or an appeal to level 1 or 2, with how all issues stand in it. */
    private static final class Node {
        int level;
        int ahead;
        int how;
        /** Of an appeal: what is open behind it. */
        int mandate;
        int forZero;
        int forOne;
        int open;
        int settled;
        int leaks;
        int appellant;
        int turned;
        int rounds;
        private final int[] briefed = new int[SIDES];
        private final int[] kept = new int[SIDES];
        /** Flaws, and nodes in which it was decided last, count for issues that are decided alone. */
        final int[] flaw = new int[MOST_ISSUES];
        final int[] source = new int[MOST_ISSUES];

        void beginAll(int issues) {
            becomeRound(NONE, issues);
            forZero = 0;
            forOne = 0;
            open = issues;
            settled = 0;
            leaks = 0;
            kept[0] = 0;
            kept[1] = 0;
            rounds = 1;
        }

        void beginRound(Node from, int number) {
            copyIssues(from);
            becomeRound(number, from.open);
            rounds = from.rounds + 1;
        }

        private void becomeRound(int itsAhead, int itsMandate) {
            level = 0;
            ahead = itsAhead;
            how = NONE;
            mandate = itsMandate;
            appellant = NONE;
            turned = 0;
            briefed[0] = 0;
            briefed[1] = 0;
        }

        void copyIssues(Node from) {
            forZero = from.forZero;
            forOne = from.forOne;
            open = from.open;
            settled = from.settled;
            leaks = from.leaks;
            rounds = from.rounds;
            System.arraycopy(from.kept, 0, kept, 0, SIDES);
            System.arraycopy(from.flaw, 0, flaw, 0, MOST_ISSUES);
            System.arraycopy(from.source, 0, source, 0, MOST_ISSUES);
        }

        void brief(int zero, int one) {
            briefed[0] = zero;
            briefed[1] = one;
        }

        int briefedBy(int side) {
            return briefed[side & 1];
        }

        int keptBy(int side) {
            return kept[side & 1];
        }

        /** Whether that is new. */
        boolean addKept(int side, int bit) {
            boolean fresh = (kept[side & 1] & bit) == 0;
            kept[side & 1] |= bit;
            return fresh;
        }

        int decidedFor(int side) {
            return side == 0 ? forZero : forOne;
        }

        int sideOf(int issue) {
            return (forZero & 1 << issue) != 0 ? 0 : 1;
        }

        /** What was ruled in this round, or turned in this appeal. */
        int decidedHere() {
            return level == 0 ? mandate & ~open : turned;
        }

        void decideIssue(int issue, int side, int itsFlaw, int number) {
            int bit = 1 << issue;
            reopen(bit);
            open &= ~bit;
            if (side == 0) {
                forZero |= bit;
            } else {
                forOne |= bit;
            }
            flaw[issue] = itsFlaw;
            source[issue] = number;
        }

        /** Nobody keeps what is open. */
        void reopen(int set) {
            open |= set;
            forZero &= ~set;
            forOne &= ~set;
            kept[0] &= ~set;
            kept[1] &= ~set;
        }
    }

    /** An appeal from one node: who may be heard on what, and what comes of briefs. */
    private static final class Court {
        private Text text = new Text();
        private Node from = new Node();
        private Node before = from;
        private int level = 1;
        private int winner = 0;
        private int anew = 0;
        /** By sides: issues that would be heard, and those of them that would be errors. */
        final int[] heard = new int[SIDES];
        final int[] errors = new int[SIDES];
        /** What judge() found. */
        int how;
        int countedHeard;
        int countedErrors;
        int turned;
        int open;
        private final int[] briefs = new int[SIDES];

        /** Whether an appeal can be made from a node (the one ahead of it is told, too); then all is about that. */
        boolean sit(Text itsText, Node node, Node aheadOfIt) {
            text = itsText;
            from = node;
            before = aheadOfIt;
            int to = levelFrom(node);
            int sure = text.winnerBy(from.forZero, from.open);
            if (to == NONE || sure == NONE) {
                return false;
            }
            level = to;
            winner = sure;
            anew = text.ofStandard(0);
            hearSide(0);
            hearSide(1);
            return true;
        }

        private static int levelFrom(Node node) {
            if (node.level == 0) {
                return (node.mandate & node.open) == 0 ? 1 : NONE;
            }
            return node.level == 1 && node.how != REMANDED ? 2 : NONE;
        }

        private void hearSide(int side) {
            heard[side] = 0;
            errors[side] = 0;
            for (int k = 0; k < text.issues; k++) {
                if (barredBy(k, side) == 0) {
                    heard[side] |= 1 << k;
                    if (from.flaw[k] >= text.bars[barPlace(level, text.standard[k])]) {
                        errors[side] |= 1 << k;
                    }
                }
            }
        }

        /** WHY. */
        int barredBy(int issue, int side) {
            int bit = 1 << issue;
            int flaw = from.flaw[issue];
            if ((from.decidedFor(1 - side) & bit) == 0) {
                return 1;
            }
            int settled = level == 1 ? from.settled : before.settled;
            if ((settled & ~from.leaks & bit) != 0 && flaw != MOST_FLAW) {
                return 2;
            }
            int raised = from.keptBy(side);
            if (level == 2) {
                raised = raised & from.briefedBy(side) | from.turned;
            }
            return (raised & bit) == 0 && flaw < PLAIN_FLAW ? 3 : 0;
        }

        Node source() {
            return from;
        }

        Text told() {
            return text;
        }

        int appellant() {
            return 1 - winner;
        }

        int ownHeard() {
            return heard[1 - winner];
        }

        int ownErrors() {
            return errors[1 - winner];
        }

        int othersErrors() {
            return errors[winner];
        }

        private int openBy(int mistakes) {
            int opened = from.open | mistakes & ~anew;
            for (int k = 0; k < text.issues; k++) {
                if ((mistakes & 1 << k) != 0) {
                    opened |= text.above[k];
                }
            }
            return opened;
        }

        private int winnerAfter(int mistakes) {
            int opened = openBy(mistakes);
            return text.winnerBy(from.forZero ^ mistakes & anew, opened);
        }

        /** How it would be, by errors of who appeals and of the other side. */
        int outcomeBy(int own, int others) {
            if (winnerAfter(own) == winner) {
                return AFFIRMED;
            }
            int sure = winnerAfter(own | others);
            if (sure == winner) {
                return AFFIRMED_OTHERWISE;
            }
            return sure == NONE ? REMANDED : REVERSED;
        }

        void judge(int zero, int one) {
            briefs[0] = zero;
            briefs[1] = one;
            int own = briefs[1 - winner] & heard[1 - winner];
            int others = briefs[winner] & heard[winner];
            how = outcomeBy(own & ownErrors(), others & othersErrors());
            countedHeard = how == AFFIRMED ? own : own | others;
            countedErrors = countedHeard & (errors[0] | errors[1]);
            boolean stands = how == AFFIRMED || how == AFFIRMED_OTHERWISE;
            open = stands ? from.open : openBy(countedErrors);
            turned = stands ? 0 : countedErrors & anew & ~open;
        }

        /** Makes a node of what was judged. */
        void makeNode(Node into, int ahead, int number) {
            into.copyIssues(from);
            into.level = level;
            into.ahead = ahead;
            into.how = how;
            into.appellant = 1 - winner;
            into.turned = turned;
            into.brief(briefs[0], briefs[1]);
            for (int k = 0; k < text.issues; k++) {
                if ((turned & 1 << k) != 0) {
                    into.decideIssue(k, 1 - from.sideOf(k), MOST_FLAW - from.flaw[k], number);
                }
            }
            into.reopen(open);
            into.mandate = open;
            int lost = level == 1 ? from.decidedFor(winner) : 0;
            into.settled = (from.settled | countedHeard | lost) & ~open;
            into.leaks = from.leaks & ~countedHeard;
        }

        /**
         * The best set for who appeals, the other side silent. Issues that are no errors change nothing
         * but take pages, so subsets of the errors are enough.
         */
        int bestSet(int among, int pages) {
            int found = 0;
            int highest = NONE;
            int set = 0;
            for (int k = 0; k < 1 << Integer.bitCount(among); k++) {
                if (text.pagesOf(set) <= pages) {
                    int rank = rankOf(outcomeBy(set, 0));
                    if (rank > highest || rank == highest && smaller(set, found)) {
                        highest = rank;
                        found = set;
                    }
                }
                set = nextSubset(set, among);
            }
            return found;
        }

        /** How many sets give it, the other side silent: those alike in errors are alike. */
        int countSets(int wanted) {
            int among = ownErrors();
            int found = 0;
            int set = 0;
            for (int k = 0; k < 1 << Integer.bitCount(among); k++) {
                if (outcomeBy(set, 0) == wanted) {
                    found++;
                }
                set = nextSubset(set, among);
            }
            return found << text.issues - Integer.bitCount(among);
        }
    }

    /** Looks for sets over several choices: against the other side's, or over two appeals. */
    private static final class Planner {
        private final Court second = new Court();
        private final Node between = new Node();
        /** The best sets at level 2 by the errors there may be; NONE where not looked for. */
        private final int[] bestBehind = new int[1 << MOST_ISSUES];
        int how;
        int firstSet;
        int secondSet;
        private int highest;
        private int answer;
        private int answered;

        void findSecured(Court court, int ownPages, int othersPages) {
            int among = court.ownErrors();
            highest = NONE;
            int set = 0;
            for (int k = 0; k < 1 << Integer.bitCount(among); k++) {
                if (court.told().pagesOf(set) <= ownPages) {
                    findAnswer(court, set, othersPages);
                    int rank = rankOf(answered);
                    if (rank > highest || rank == highest && smaller(set, firstSet)) {
                        highest = rank;
                        firstSet = set;
                        secondSet = answer;
                        how = answered == AFFIRMED_OTHERWISE ? AFFIRMED : answered;
                    }
                }
                set = nextSubset(set, among);
            }
        }

        /** The least of the other side's sets by which it is worst for who appeals. */
        private void findAnswer(Court court, int own, int pages) {
            int among = court.othersErrors();
            answer = 0;
            answered = court.outcomeBy(own, 0);
            int set = 0;
            for (int k = 0; k < 1 << Integer.bitCount(among); k++) {
                if (court.told().pagesOf(set) <= pages) {
                    int came = court.outcomeBy(own, set);
                    if (rankOf(came) < rankOf(answered)) {
                        answer = set;
                        answered = came;
                    }
                }
                set = nextSubset(set, among);
            }
        }

        /**
         * At level 1 all that is heard may matter, errors or not: what is briefed there may be an error at
         * level 2. What is not heard there would not be heard at level 2 either.
         */
        void findChain(Court court, int pages) {
            for (int k = 0; k < 1 << MOST_ISSUES; k++) {
                bestBehind[k] = NONE;
            }
            how = AFFIRMED;
            firstSet = 0;
            secondSet = 0;
            highest = 0;
            int among = court.ownHeard();
            int set = 0;
            for (int k = 0; k < 1 << Integer.bitCount(among); k++) {
                boolean may = court.told().pagesOf(set) <= pages;
                int came = may ? court.outcomeBy(set & court.ownErrors(), 0) : NONE;
                if (came == AFFIRMED) {
                    trySecond(court, set, pages);
                } else if (may) {
                    // of like ends that of one appeal goes ahead: its rank is the odd one above
                    takeIfBetter(came, 2 * rankOf(came) + 1, set, NONE);
                }
                set = nextSubset(set, among);
            }
        }

        private void trySecond(Court court, int set, int pages) {
            court.judge(court.appellant() == 0 ? set : 0, court.appellant() == 1 ? set : 0);
            court.makeNode(between, NONE, 0);
            if (!second.sit(court.told(), between, court.source())) {
                return;
            }
            int among = second.ownErrors();
            if (bestBehind[among] == NONE) {
                // an appeal that is affirmed leaves all as it was, so these hang on nothing else
                bestBehind[among] = second.bestSet(among, pages);
            }
            int behind = bestBehind[among];
            int came = second.outcomeBy(behind, 0);
            takeIfBetter(came, 2 * rankOf(came), set, behind);
        }

        private void takeIfBetter(int came, int rank, int first, int behind) {
            if (rank > highest || rank == highest && rank > 0 && smaller(first, firstSet)) {
                highest = rank;
                how = came;
                firstSet = first;
                secondSet = behind;
            }
        }
    }

    /** What was written latest. */
    private static final class Page {
        private static final int MOST = 256;
        final int[] bytes = new int[MOST];
        int length;

        void clearAll() {
            length = 0;
        }

        void putByte(int sign) {
            if (length < MOST) {
                bytes[length] = sign;
                length++;
            }
        }

        void put(String words) {
            for (int k = 0; k < words.length(); k++) {
                putByte(words.charAt(k));
            }
        }

        void putNumber(int number) {
            if (number >= 10) {
                putByte('0' + number / 10 % 10);
            }
            putByte('0' + number % 10);
        }
    }
}
