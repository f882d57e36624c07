import java.util.ArrayList;
import java.util.Arrays;
import java.util.List;
import java.util.NoSuchElementException;

/**
 * The document again, in the most literal way and without any haste: sets are tried one by one, all
 * decisions of what is open are gone through, nothing is kept that can be worked out. RemandTree is
 * held against it.
 */
final class Model {
    static final int NONE = -1;

    /** An expression of the claim. */
    interface Expr {
        boolean holds(int[] sides);
    }

    static final class Wrong extends Exception {
        private static final long serialVersionUID = 1L;
        final int at;

        Wrong(int at) {
            super(null, null, false, false);
            this.at = at;
        }
    }

    static final class Token {
        final char kind; // w word, n number, e end, ! no token, else the sign itself
        final String text;
        final int at;

        Token(char kind, String text, int at) {
            this.kind = kind;
            this.text = text;
            this.at = at;
        }
    }

    static final class Parsed {
        final List<String> names = new ArrayList<>();
        final List<Integer> standards = new ArrayList<>();
        final List<Integer> rests = new ArrayList<>();
        final int[][] bars = {{1, 4, 7}, {1, 4, 7}};
        Expr claim = null;
        int claimNames = 0;
    }

    static final class Parser {
        static final List<String> KEYWORDS = Arrays.asList("issue", "anew", "choice", "clear", "rests", "bars",
            "first", "second", "claim", "or", "and", "not", "of");
        final List<Token> tokens = new ArrayList<>();
        int next = 0;
        final Parsed parsed = new Parsed();

        Parser(byte[] bytes) {
            int k = 0;
            while (k < bytes.length) {
                char c = (char) (bytes[k] & 255);
                int from = k;
                if (c == 9 || c == 10 || c == 32) {
                    k++;
                } else if (c >= 'a' && c <= 'z' || c >= '0' && c <= '9') {
                    boolean word = c >= 'a';
                    StringBuilder run = new StringBuilder();
                    while (k < bytes.length && (word ? bytes[k] >= 'a' && bytes[k] <= 'z'
                            : bytes[k] >= '0' && bytes[k] <= '9')) {
                        run.append((char) bytes[k++]);
                    }
                    tokens.add(new Token(word ? 'w' : 'n', run.toString(), from));
                } else {
                    tokens.add(new Token(";,()".indexOf(c) >= 0 ? c : '!', "", from));
                    k++;
                }
            }
            tokens.add(new Token('e', "", bytes.length));
        }

        Token peek() {
            return tokens.get(next);
        }

        boolean isWord(String w) {
            return peek().kind == 'w' && peek().text.equals(w);
        }

        Wrong wrong() {
            return new Wrong(peek().at);
        }

        void sign(char c) throws Wrong {
            if (peek().kind != c) {
                throw wrong();
            }
            next++;
        }

        String name() throws Wrong {
            Token t = peek();
            if (t.kind != 'w' || t.text.length() > 6 || KEYWORDS.contains(t.text)) {
                throw wrong();
            }
            return t.text;
        }

        int told() throws Wrong {
            int found = parsed.names.indexOf(name());
            if (found < 0) {
                throw wrong();
            }
            return found;
        }

        int number() throws Wrong {
            Token t = peek();
            if (t.kind != 'n' || t.text.length() != 1) {
                throw wrong();
            }
            next++;
            return t.text.charAt(0) - '0';
        }

        Parsed parse() throws Wrong {
            while (peek().kind != 'e') {
                if (isWord("issue")) {
                    issue();
                } else if (isWord("bars")) {
                    bars();
                } else if (isWord("claim")) {
                    claim();
                } else {
                    throw wrong();
                }
                sign(';');
            }
            if (parsed.claim == null) {
                throw wrong();
            }
            return parsed;
        }

        void issue() throws Wrong {
            if (parsed.names.size() == 8) {
                throw wrong();
            }
            next++;
            String name = name();
            if (parsed.names.contains(name)) {
                throw wrong();
            }
            next++;
            int standard = isWord("anew") ? 0 : isWord("choice") ? 1 : isWord("clear") ? 2 : -1;
            if (standard < 0) {
                throw wrong();
            }
            next++;
            int rests = 0;
            if (isWord("rests")) {
                do {
                    next++;
                    int base = told();
                    if ((rests >> base & 1) == 1) {
                        throw wrong();
                    }
                    rests += 1 << base;
                    next++;
                } while (peek().kind == ',');
            }
            if (peek().kind != ';') {
                throw wrong();
            }
            parsed.names.add(name);
            parsed.standards.add(standard);
            parsed.rests.add(rests);
        }

        void bars() throws Wrong {
            next++;
            int level = isWord("first") ? 0 : isWord("second") ? 1 : -1;
            if (level < 0) {
                throw wrong();
            }
            next++;
            for (int k = 0; k < 3; k++) {
                parsed.bars[level][k] = number();
            }
        }

        void claim() throws Wrong {
            if (parsed.claim != null) {
                throw wrong();
            }
            next++;
            parsed.claim = either(0);
        }

        Expr either(int depth) throws Wrong {
            Expr left = both(depth);
            while (isWord("or")) {
                next++;
                Expr a = left;
                Expr b = both(depth);
                left = s -> a.holds(s) || b.holds(s);
            }
            return left;
        }

        Expr both(int depth) throws Wrong {
            Expr left = part(depth);
            while (isWord("and")) {
                next++;
                Expr a = left;
                Expr b = part(depth);
                left = s -> a.holds(s) && b.holds(s);
            }
            return left;
        }

        Expr part(int depth) throws Wrong {
            if (isWord("not")) {
                deeper(depth);
                Expr inner = part(depth + 1);
                return s -> !inner.holds(s);
            }
            if (peek().kind == '(') {
                deeper(depth);
                Expr inner = either(depth + 1);
                sign(')');
                return inner;
            }
            if (peek().kind == 'n') {
                int n = number();
                if (!isWord("of")) {
                    throw wrong();
                }
                next++;
                if (peek().kind != '(') {
                    throw wrong();
                }
                deeper(depth);
                List<Expr> parts = new ArrayList<>();
                parts.add(either(depth + 1));
                while (peek().kind == ',') {
                    next++;
                    parts.add(either(depth + 1));
                }
                sign(')');
                return s -> parts.stream().filter(p -> p.holds(s)).count() >= n;
            }
            int named = told();
            if (parsed.claimNames == 40) {
                throw wrong();
            }
            parsed.claimNames++;
            next++;
            return s -> s[named] == 0;
        }

        void deeper(int depth) throws Wrong {
            if (depth == 6) {
                throw wrong();
            }
            next++;
        }
    }

    /** How it stands in a node. */
    static final class State {
        int kind;
        int ahead = NONE;
        int how = NONE;
        int mandate;
        int[] side;
        int[] flaw;
        int[] level;
        int[] where;
        boolean[] settled;
        boolean[] leaks;
        boolean[][] keeps;
        int appellant = NONE;
        int turned = 0;
        int[] briefed = {0, 0};

        State(int n) {
            side = new int[n];
            flaw = new int[n];
            level = new int[n];
            where = new int[n];
            settled = new boolean[n];
            leaks = new boolean[n];
            keeps = new boolean[2][n];
            for (int i = 0; i < n; i++) {
                open(i);
            }
        }

        State(State from, int ahead) {
            this.ahead = ahead;
            side = from.side.clone();
            flaw = from.flaw.clone();
            level = from.level.clone();
            where = from.where.clone();
            settled = from.settled.clone();
            leaks = from.leaks.clone();
            keeps = new boolean[][] {from.keeps[0].clone(), from.keeps[1].clone()};
        }

        void open(int i) {
            side[i] = NONE;
            flaw[i] = NONE;
            level[i] = NONE;
            where[i] = NONE;
            keeps[0][i] = false;
            keeps[1][i] = false;
        }
    }

    /** What an appeal comes to. */
    static final class Result {
        int how;
        int errors;
        int heard;
        int turned;
        int open;
        State state;
    }

    byte[] tape = new byte[0];
    Parsed text = new Parsed();
    int fault = NONE;
    List<State> nodes = new ArrayList<>();
    int now = 0;
    String written = "";

    Model() {
        text.claim = s -> false;
        nodes.add(new State(0));
    }

    int n() {
        return text.names.size();
    }

    int all() {
        return (1 << n()) - 1;
    }

    static boolean in(int set, int i) {
        return (set >> i & 1) == 1;
    }

    static int bits(boolean[] of) {
        int set = 0;
        for (int i = 0; i < of.length; i++) {
            set |= of[i] ? 1 << i : 0;
        }
        return set;
    }

    static int opened(State s) {
        int set = 0;
        for (int i = 0; i < s.side.length; i++) {
            set |= s.side[i] == NONE ? 1 << i : 0;
        }
        return set;
    }

    void needIssue(int i) {
        if (i < 0 || i >= n()) {
            throw new IndexOutOfBoundsException();
        }
    }

    void needNode(int k) {
        if (k < 0 || k >= nodes.size()) {
            throw new IndexOutOfBoundsException();
        }
    }

    static void needArgument(boolean right) {
        if (!right) {
            throw new IllegalArgumentException();
        }
    }

    static void needState(boolean right) {
        if (!right) {
            throw new IllegalStateException();
        }
    }

    static void needSuch(boolean right) {
        if (!right) {
            throw new NoSuchElementException();
        }
    }

    boolean isSet(int set) {
        return set >= 0 && set <= all();
    }

    // ---- the claim

    /** All who may win however open ones would be decided: bit 0, bit 1. */
    int mayWin(int[] side) {
        for (int i = 0; i < side.length; i++) {
            if (side[i] == NONE) {
                int[] zero = side.clone();
                zero[i] = 0;
                int[] one = side.clone();
                one[i] = 1;
                int found = mayWin(zero);
                return found == 3 ? 3 : found | mayWin(one);
            }
        }
        return text.claim.holds(side) ? 1 : 2;
    }

    int sure(int[] side) {
        int may = mayWin(side);
        return may == 3 ? NONE : may - 1;
    }

    int waysOf(int[] side, int wanted) {
        for (int i = 0; i < side.length; i++) {
            if (side[i] == NONE) {
                int[] zero = side.clone();
                zero[i] = 0;
                int[] one = side.clone();
                one[i] = 1;
                return waysOf(zero, wanted) + waysOf(one, wanted);
            }
        }
        return text.claim.holds(side) == (wanted == 0) ? 1 : 0;
    }

    static int[] flip(int[] side, int set) {
        int[] other = side.clone();
        for (int i = 0; i < side.length; i++) {
            other[i] = in(set, i) ? 1 - side[i] : side[i];
        }
        return other;
    }

    // ---- the face

    int feed(int a, int b, int c, int d, int e) {
        if (tape.length > 380) {
            return NONE;
        }
        int at = tape.length;
        tape = Arrays.copyOf(tape, at + 20);
        for (int number : new int[] {a, b, c, d, e}) {
            tape[at++] = (byte) (number >> 24);
            tape[at++] = (byte) (number >> 16);
            tape[at++] = (byte) (number >> 8);
            tape[at++] = (byte) number;
        }
        return tape.length;
    }

    boolean end(int k) {
        if (k < 0 || k > tape.length) {
            return false;
        }
        tape = Arrays.copyOf(tape, k);
        return true;
    }

    int read() {
        byte[] bytes = tape;
        tape = new byte[0];
        try {
            text = new Parser(bytes).parse();
        } catch (Wrong w) {
            fault = w.at;
            throw new IllegalArgumentException();
        }
        fault = NONE;
        nodes.clear();
        State first = new State(n());
        first.mandate = all();
        nodes.add(first);
        now = 0;
        return n();
    }

    int issue(int i, int what) {
        needIssue(i);
        needSuch(what >= 0 && what <= 2);
        if (what == 0) {
            return text.standards.get(i);
        }
        if (what == 1) {
            return text.rests.get(i);
        }
        int found = 0;
        for (int j = 0; j < n(); j++) {
            found |= restsOn(j, i) ? 1 << j : 0;
        }
        return found;
    }

    boolean restsOn(int j, int i) {
        if (in(text.rests.get(j), i)) {
            return true;
        }
        for (int k = 0; k < n(); k++) {
            if (in(text.rests.get(j), k) && restsOn(k, i)) {
                return true;
            }
        }
        return false;
    }

    int name(int i, int k) {
        needIssue(i);
        String name = text.names.get(i);
        return k >= 0 && k < name.length() ? name.charAt(k) : NONE;
    }

    int bar(int level, int standard) {
        needArgument(level >= 1 && level <= 2 && standard >= 0 && standard <= 2);
        return text.bars[level - 1][standard];
    }

    int tell(int level, int standard, int k) {
        int was = bar(level, standard);
        needArgument(k >= 0 && k <= 9);
        text.bars[level - 1][standard] = k;
        return was;
    }

    int rule(int i, int side, int flaw) {
        needIssue(i);
        needArgument(side == 0 || side == 1);
        needArgument(flaw >= 0 && flaw <= 9);
        State s = nodes.get(now);
        needState(s.kind == 0 && in(s.mandate, i) && s.side[i] == NONE);
        for (int j = 0; j < n(); j++) {
            needState(!in(text.rests.get(i), j) || s.side[j] != NONE);
        }
        s.side[i] = side;
        s.flaw[i] = flaw;
        s.level[i] = 0;
        s.where[i] = now;
        s.keeps[0][i] = false;
        s.keeps[1][i] = false;
        return Integer.bitCount(opened(s) & s.mandate);
    }

    boolean keep(int i, int side) {
        needIssue(i);
        needArgument(side == 0 || side == 1);
        State s = nodes.get(now);
        needState(s.kind == 0 && s.where[i] == now && s.side[i] == 1 - side);
        boolean fresh = !s.keeps[side][i];
        s.keeps[side][i] = true;
        return fresh;
    }

    boolean leak(int i) {
        needIssue(i);
        State s = nodes.get(now);
        needState(s.kind == 0 && s.settled[i]);
        boolean fresh = !s.leaks[i];
        s.leaks[i] = true;
        return fresh;
    }

    /** The level of an appeal from a state; 0 without. */
    int levelFrom(State s) {
        if (sure(s.side) == NONE) {
            return 0;
        }
        if (s.kind == 0) {
            return (opened(s) & s.mandate) == 0 ? 1 : 0;
        }
        return s.kind == 1 && s.how != 3 ? 2 : 0;
    }

    State before(State s) {
        return s.ahead == NONE ? s : nodes.get(s.ahead);
    }

    int whyNot(State s, State before, int level, int i, int side) {
        if (s.side[i] != 1 - side) {
            return 1;
        }
        boolean settled = level == 1 ? s.settled[i] : before.settled[i];
        if (settled && !s.leaks[i] && s.flaw[i] != 9) {
            return 2;
        }
        boolean kept = s.keeps[side][i];
        if (level == 2) {
            kept = kept && in(s.briefed[side], i) || in(s.turned, i);
        }
        return kept || s.flaw[i] >= 8 ? 0 : 3;
    }

    int heard(State s, State before, int level, int side, int briefed) {
        int set = 0;
        for (int i = 0; i < n(); i++) {
            if (in(briefed, i) && whyNot(s, before, level, i, side) == 0) {
                set |= 1 << i;
            }
        }
        return set;
    }

    int errors(State s, int level, int heard) {
        int set = 0;
        for (int i = 0; i < n(); i++) {
            if (in(heard, i) && s.flaw[i] >= text.bars[level - 1][text.standards.get(i)]) {
                set |= 1 << i;
            }
        }
        return set;
    }

    /** THEN: by errors, in a copy. */
    State then(State s, int level, int ahead, int number, int errors) {
        State t = new State(s, ahead);
        t.kind = level;
        boolean[] touched = new boolean[n()];
        for (int i = 0; i < n(); i++) {
            touched[i] = t.side[i] == NONE;
            if (in(errors, i)) {
                touched[i] = true;
                if (text.standards.get(i) == 0) {
                    t.side[i] = 1 - s.side[i];
                    t.flaw[i] = 9 - s.flaw[i];
                    t.level[i] = level;
                    t.where[i] = number;
                    t.turned |= 1 << i;
                    t.keeps[0][i] = false;
                    t.keeps[1][i] = false;
                } else {
                    t.open(i);
                }
            }
        }
        for (int again = 0; again < n(); again++) {
            for (int i = 0; i < n(); i++) {
                for (int j = 0; j < n(); j++) {
                    if (in(text.rests.get(i), j) && touched[j]) {
                        touched[i] = true;
                        t.open(i);
                        t.turned &= ~(1 << i);
                    }
                }
            }
        }
        return t;
    }

    Result result(State s, State before, int ahead, int number, int[] briefs) {
        int level = levelFrom(s);
        int winner = sure(s.side);
        int appellant = 1 - winner;
        Result r = new Result();
        int own = heard(s, before, level, appellant, briefs[appellant]);
        int others = heard(s, before, level, winner, briefs[winner]);
        r.heard = own;
        State alone = then(s, level, ahead, number, errors(s, level, own));
        if (sure(alone.side) == winner) {
            r.how = 0;
        } else {
            r.heard = own | others;
            State both = then(s, level, ahead, number, errors(s, level, own | others));
            int sure = sure(both.side);
            r.how = sure == winner ? 1 : sure == appellant ? 2 : 3;
            r.state = both;
        }
        r.errors = errors(s, level, r.heard);
        if (r.how < 2) {
            r.state = new State(s, ahead);
            r.state.kind = level;
        }
        State t = r.state;
        r.turned = t.turned;
        r.open = opened(t);
        t.mandate = r.open;
        t.how = r.how;
        t.appellant = appellant;
        t.briefed = briefs.clone();
        for (int i = 0; i < n(); i++) {
            boolean settled = s.settled[i] || in(r.heard, i) || level == 1 && s.side[i] == 1 - appellant;
            t.settled[i] = settled && t.side[i] != NONE;
            if (in(r.heard, i)) {
                t.leaks[i] = false;
            }
        }
        return r;
    }

    int[] briefsOf(State s, int own, int others) {
        return sure(s.side) == 1 ? new int[] {own, others} : new int[] {others, own};
    }

    int appeal(int zero, int one) {
        needArgument(isSet(zero) && isSet(one));
        State s = nodes.get(now);
        needState(levelFrom(s) != 0 && nodes.size() < 40);
        nodes.add(result(s, before(s), now, nodes.size(), new int[] {zero, one}).state);
        now = nodes.size() - 1;
        return now;
    }

    int round() {
        State s = nodes.get(now);
        needState(s.kind != 0 && s.how == 3 && nodes.size() < 40);
        State t = new State(s, now);
        t.mandate = opened(s);
        nodes.add(t);
        now = nodes.size() - 1;
        return now;
    }

    int go(int k) {
        needNode(k);
        int was = now;
        now = k;
        return was;
    }

    int preview(int zero, int one, int what) {
        needArgument(isSet(zero) && isSet(one));
        State s = nodes.get(now);
        needState(levelFrom(s) != 0);
        needSuch(what >= 0 && what <= 4);
        Result r = result(s, before(s), now, nodes.size(), new int[] {zero, one});
        return new int[] {r.how, r.errors, r.heard, r.turned, r.open}[what];
    }

    static int good(int how) {
        return how == 2 ? 2 : how == 3 ? 1 : 0;
    }

    int how(State s, State before, int own, int others) {
        return result(s, before, now, 0, briefsOf(s, own, others)).how;
    }

    /** Whether a row of numbers comes ahead of another, the first that differs telling. */
    static boolean ahead(int[] row, int[] of) {
        for (int k = 0; k < row.length; k++) {
            if (row[k] != of[k]) {
                return row[k] < of[k];
            }
        }
        return false;
    }

    int best(int pages, boolean set) {
        needArgument(pages >= 0 && pages <= 99);
        State s = nodes.get(now);
        needState(levelFrom(s) != 0);
        int[] row = null;
        for (int own = 0; own <= all(); own++) {
            if (pages(own) <= pages) {
                int[] next = {-good(how(s, before(s), own, 0)), Integer.bitCount(own), own};
                row = row == null || ahead(next, row) ? next : row;
            }
        }
        return set ? row[2] : how(s, before(s), row[2], 0);
    }

    int why(int i, int side) {
        needIssue(i);
        needArgument(side == 0 || side == 1);
        State s = nodes.get(now);
        needState(levelFrom(s) != 0);
        return whyNot(s, before(s), levelFrom(s), i, side);
    }

    int due(int side, boolean errors) {
        needArgument(side == 0 || side == 1);
        State s = nodes.get(now);
        needState(levelFrom(s) != 0);
        int heard = heard(s, before(s), levelFrom(s), side, all());
        return errors ? errors(s, levelFrom(s), heard) : heard;
    }

    int pages(int set) {
        needArgument(isSet(set));
        int pages = 0;
        for (int i = 0; i < n(); i++) {
            pages += in(set, i) ? 1 + Integer.bitCount(text.rests.get(i)) : 0;
        }
        return pages;
    }

    int[] secured(int ownPages, int othersPages) {
        State s = nodes.get(now);
        int[] row = null;
        for (int own = 0; own <= all(); own++) {
            if (pages(own) > ownPages) {
                continue;
            }
            int answer = NONE;
            int worst = 0;
            for (int others = 0; others <= all(); others++) {
                if (pages(others) <= othersPages) {
                    int how = how(s, before(s), own, others);
                    if (answer == NONE || good(how) < good(worst)) {
                        answer = others;
                        worst = how;
                    }
                }
            }
            int[] next = {-good(worst), Integer.bitCount(own), own, answer};
            row = row == null || ahead(next, row) ? next : row;
        }
        return new int[] {row[2], new int[] {0, 3, 2}[-row[0]], row[3]};
    }

    int secure(int own, int others, int what) {
        needArgument(own >= 0 && own <= 99 && others >= 0 && others <= 99);
        needState(levelFrom(nodes.get(now)) != 0);
        needSuch(what >= 0 && what <= 2);
        return secured(own, others)[what];
    }

    int[] chained(int pages) {
        State s = nodes.get(now);
        int[] row = null;
        for (int own = 0; own <= all(); own++) {
            if (pages(own) > pages) {
                continue;
            }
            Result r = result(s, before(s), now, 0, briefsOf(s, own, 0));
            if (r.how >= 2) {
                int[] next = {-good(r.how), 1, Integer.bitCount(own), own, 0, NONE};
                row = row == null || ahead(next, row) ? next : row;
                continue;
            }
            for (int behind = 0; behind <= all(); behind++) {
                if (pages(behind) <= pages) {
                    int how = result(r.state, s, 0, 0, briefsOf(r.state, behind, 0)).how;
                    int[] next = {-good(how), 2, Integer.bitCount(own), own, Integer.bitCount(behind), behind};
                    row = row == null || ahead(next, row) ? next : row;
                }
            }
        }
        if (row[0] == 0) {
            return new int[] {0, 0, 0};
        }
        return new int[] {new int[] {0, 3, 2}[-row[0]], row[3], row[5]};
    }

    int chain(int pages, int what) {
        needArgument(pages >= 0 && pages <= 99);
        State s = nodes.get(now);
        needState(s.kind == 0 && levelFrom(s) != 0);
        needSuch(what >= 0 && what <= 2);
        return chained(pages)[what];
    }

    int swing(boolean set) {
        State s = nodes.get(now);
        int winner = sure(s.side);
        if (winner == NONE) {
            return NONE;
        }
        int[] row = null;
        for (int flipped = 0; flipped <= all(); flipped++) {
            if ((flipped & opened(s)) == 0 && sure(flip(s.side, flipped)) == 1 - winner) {
                int[] next = {Integer.bitCount(flipped), flipped};
                row = row == null || ahead(next, row) ? next : row;
            }
        }
        return row == null ? NONE : row[set ? 1 : 0];
    }

    int fates(int how) {
        State s = nodes.get(now);
        needState(levelFrom(s) != 0);
        needSuch(how >= 0 && how <= 3);
        int found = 0;
        for (int own = 0; own <= all(); own++) {
            found += how(s, before(s), own, 0) == how ? 1 : 0;
        }
        return found;
    }

    List<Integer> way(int k) {
        List<Integer> way = new ArrayList<>();
        for (int at = k; at != NONE; at = nodes.get(at).ahead) {
            way.add(0, at);
        }
        return way;
    }

    int node(int k, int what) {
        needNode(k);
        needSuch(what >= 0 && what <= 14);
        State s = nodes.get(k);
        switch (what) {
            case 0: return s.kind;
            case 1: return s.ahead;
            case 2: return s.how;
            case 3: return s.mandate;
            case 4: return opened(s);
            case 5: return bits(s.settled);
            case 6: return bits(s.leaks);
            case 7: return sure(s.side);
            case 8: return s.appellant;
            case 9: return s.turned;
            case 10: return s.briefed[0];
            case 11: return s.briefed[1];
            case 12: return bits(s.keeps[0]);
            case 13: return bits(s.keeps[1]);
            default: return (int) way(k).stream().filter(at -> nodes.get(at).kind == 0).count();
        }
    }

    int decided(int k, int i, int what) {
        needNode(k);
        needIssue(i);
        needSuch(what >= 0 && what <= 3);
        State s = nodes.get(k);
        return new int[] {s.side[i], s.flaw[i], s.level[i], s.where[i]}[what];
    }

    int times(int k, int i, int level) {
        needNode(k);
        needIssue(i);
        needSuch(level >= 0 && level <= 2);
        int found = 0;
        for (int at : way(k)) {
            State s = nodes.get(at);
            found += s.where[i] == at && s.level[i] == level ? 1 : 0;
        }
        return found;
    }

    int harmless() {
        State s = nodes.get(now);
        int found = 0;
        for (int i = 0; i < n(); i++) {
            if (s.side[i] != NONE && sure(s.side) != NONE && sure(flip(s.side, 1 << i)) == sure(s.side)) {
                found |= 1 << i;
            }
        }
        return found;
    }

    boolean tells(int[] side, int i) {
        for (int j = 0; j < side.length; j++) {
            if (side[j] == NONE && j != i) {
                int[] zero = side.clone();
                zero[j] = 0;
                int[] one = side.clone();
                one[j] = 1;
                return tells(zero, i) || tells(one, i);
            }
        }
        return sure(side) == NONE;
    }

    int pivotal() {
        State s = nodes.get(now);
        int found = 0;
        for (int i = 0; i < n(); i++) {
            found |= s.side[i] == NONE && tells(s.side, i) ? 1 << i : 0;
        }
        return found;
    }

    int ways(int side) {
        needArgument(side == 0 || side == 1);
        return waysOf(nodes.get(now).side, side);
    }

    int write(int k) {
        needNode(k);
        State s = nodes.get(k);
        StringBuilder out = new StringBuilder(new String[] {"round", "first", "second"}[s.kind]);
        if (s.kind > 0) {
            out.append(' ').append(new String[] {"affirmed", "affirmed otherwise", "reversed", "remanded"}[s.how]);
        }
        for (int i = 0; i < n(); i++) {
            out.append(' ').append(text.names.get(i)).append(s.side[i] == NONE ? "?" : "=" + s.side[i]);
            out.append(s.settled[i] ? "!" : "");
        }
        written = out.toString();
        return written.length();
    }

    int octet(int k) {
        return k >= 0 && k < written.length() ? written.charAt(k) : NONE;
    }

    int tally(int k, int side, int standard) {
        needNode(k);
        needArgument(side >= -1 && side <= 1 && standard >= -1 && standard <= 2);
        State s = nodes.get(k);
        int found = 0;
        for (int i = 0; i < n(); i++) {
            found += s.side[i] == side && (standard == NONE || text.standards.get(i) == standard) ? 1 : 0;
        }
        return found;
    }

    int unlike(int k, int other) {
        needNode(k);
        needNode(other);
        int found = 0;
        for (int i = 0; i < n(); i++) {
            found |= nodes.get(k).side[i] != nodes.get(other).side[i] ? 1 << i : 0;
        }
        return found;
    }

    int widened(int k) {
        needNode(k);
        if (nodes.get(k).kind != 0 || k == 0) {
            return 0;
        }
        List<Integer> way = way(k);
        for (int step = way.size() - 2; step >= 0; step--) {
            State s = nodes.get(way.get(step));
            if (s.kind == 0) {
                return nodes.get(k).mandate & ~s.mandate;
            }
        }
        return 0;
    }

    List<Integer> children(int k) {
        List<Integer> found = new ArrayList<>();
        for (int at = 0; at < nodes.size(); at++) {
            if (nodes.get(at).ahead == k) {
                found.add(at);
            }
        }
        return found;
    }

    static int pick(List<Integer> of, int k) {
        return k >= 0 && k < of.size() ? of.get(k) : NONE;
    }

    int leaf(int k) {
        List<Integer> leaves = new ArrayList<>();
        for (int at = 0; at < nodes.size(); at++) {
            if (children(at).isEmpty()) {
                leaves.add(at);
            }
        }
        return pick(leaves, k);
    }

    String branch(int k) {
        State s = nodes.get(k);
        StringBuilder out = new StringBuilder().append(k).append(s.kind == 0 ? 'r' : "aovm".charAt(s.how));
        List<String> inner = new ArrayList<>();
        for (int at : children(k)) {
            inner.add(branch(at));
        }
        return inner.isEmpty() ? out.toString() : out + "(" + String.join(",", inner) + ")";
    }

    int tree() {
        written = branch(0);
        return written.length();
    }

    int path(int k, int step) {
        needNode(k);
        return pick(way(k), step);
    }

    int common(int k, int other) {
        needNode(k);
        needNode(other);
        List<Integer> ways = way(k);
        ways.retainAll(way(other));
        return ways.get(ways.size() - 1);
    }

    int child(int k, int which) {
        needNode(k);
        return pick(children(k), which);
    }

    int count(int what) {
        switch (what) {
            case 0: return n();
            case 1: return nodes.size();
            case 2: return now;
            case 3: return (int) nodes.stream().filter(s -> s.kind == 0).count();
            case 4: return (int) nodes.stream().filter(s -> s.kind != 0).count();
            case 5: case 6: case 7: case 8:
                return (int) nodes.stream().filter(s -> s.kind != 0 && s.how == what - 5).count();
            case 9: return text.claimNames;
            case 10: return written.length();
            default: return NONE;
        }
    }
}
