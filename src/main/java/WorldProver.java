/**
 * A house for propositions without the excluded middle: shared formulas, a search for proofs that
 * always ends, proofs as terms, and trees of worlds in which a formula fails.
 *
 * The words in capitals in the comments are those of the document.
 */
public final class WorldProver {
    private static final int NONE = -1;
    private static final int OUTSIDE = -2;
    private static final int NOT_NOW = -3;
    private static final int NO_ROOM = -4;
    private static final int SPENT = -6;
    private static final int FULL = -7;
    private static final int FAULTY = -10;

    // The kinds of FORMULAS; false and true have their kinds as their NUMBERS, too.
    private static final int FALSE = 0;
    private static final int TRUE = 1;
    private static final int VARIABLE = 2;
    private static final int AND = 3;
    private static final int OR = 4;
    private static final int IMPLIES = 5;

    private static final int MOST_TEXT = 3000;
    private static final int MOST_FORMULAS = 2000;
    private static final int MOST_VARIABLES = 24;
    private static final int MOST_GIVEN = 20;
    private static final int MOST_WRITTEN = 8000;
    private static final int MOST_OPEN = 40;
    private static final int MOST_STEPS = 2000;
    private static final int MOST_LEFT = 60;
    private static final int MOST_DEEP = 200;
    private static final int MOST_WORLDS = 60;
    private static final int MOST_ASSIGNED = 12;

    private final Tokens tokens;
    private final Formulas formulas;
    private final Reader reader;
    private final Writer writer;
    private final Search search;
    private final Checker checker;
    private final Parts parts;
    private final Worlds worlds;
    private final int[] givens = new int[MOST_GIVEN];
    private int givenMany;

    public WorldProver() {
        tokens = new Tokens();
        formulas = new Formulas(MOST_FORMULAS);
        reader = new Reader(tokens, formulas);
        writer = new Writer(formulas);
        search = new Search(formulas);
        checker = new Checker(formulas, reader.terms);
        parts = new Parts(formulas);
        worlds = new Worlds(formulas);
    }

    public int feed(long v, int n) {
        if (n < 0 || n > 8) {
            return OUTSIDE;
        }
        if (n == 0) {
            tokens.drop();
            return 0;
        }
        return tokens.append(v, n);
    }

    public int read() {
        int f = reader.wholeFormula();
        return reader.fault == 0 ? f : FAULTY - reader.fault;
    }

    public int place() {
        return reader.faultPlace;
    }

    public int count(int what) {
        switch (what) {
            case 0: return formulas.many();
            case 1: return formulas.variables();
            case 2: return givenMany;
            case 3: return worlds.many();
            default: return OUTSIDE;
        }
    }

    public int formula(int f, int what) {
        if (!formulas.has(f)) {
            return NONE;
        }
        switch (what) {
            case 0: return formulas.kindOf(f);
            case 1: return formulas.firstOf(f);
            case 2: return formulas.secondOf(f);
            default: return OUTSIDE;
        }
    }

    public int make(int kind, int a, int b) {
        if (!formulas.has(a) || !formulas.has(b)) {
            return NONE;
        }
        if (kind != AND && kind != OR && kind != IMPLIES) {
            return OUTSIDE;
        }
        int f = formulas.joined(kind, a, b);
        return f < 0 ? NO_ROOM : f;
    }

    public int write(int f) {
        return formulas.has(f) ? writer.wholeFormula(f) : NONE;
    }

    public int octet(int i) {
        return writer.latestByte(i);
    }

    public int given(int f) {
        if (!formulas.has(f)) {
            return NONE;
        }
        if (givenMany < 0 || givenMany >= MOST_GIVEN) {
            return NO_ROOM;
        }
        givens[givenMany] = f;
        givenMany++;
        return givenMany;
    }

    public int forget() {
        int were = givenMany;
        givenMany = 0;
        return were;
    }

    public int prove(int f, int steps) {
        if (!formulas.has(f)) {
            return NONE;
        }
        if (steps < 0 || steps > MOST_STEPS) {
            return OUTSIDE;
        }
        return search.run(givens, givenMany, f, steps);
    }

    public int told(int what) {
        switch (what) {
            case 0: return search.steps;
            case 1: return search.sequents.most;
            case 2: return search.deepest;
            case 3: return search.answer;
            default: return OUTSIDE;
        }
    }

    public int proof() {
        if (search.answer != Search.PROVED) {
            return NOT_NOW;
        }
        return writer.wholeTerm(search.terms, search.found, search.givenMany);
    }

    public int check(int f) {
        if (!formulas.has(f)) {
            return NONE;
        }
        int term = reader.wholeTerm(givenMany);
        if (reader.fault != 0) {
            return FAULTY - reader.fault;
        }
        return checker.accepts(term, f, givens, givenMany) ? 1 : 0;
    }

    public int classical(int f) {
        return formulas.has(f) ? parts.byAllAssignments(f) : NONE;
    }

    public int refute() {
        if (search.answer != Search.FAILED) {
            return NOT_NOW;
        }
        return worlds.take(search.refutations, search.found);
    }

    public int clear() {
        int were = worlds.many();
        worlds.drop();
        return were;
    }

    public int world(int parent) {
        return worlds.has(parent) ? worlds.grow(parent) : NONE;
    }

    public int force(int world, int variable) {
        if (!worlds.has(world) || !formulas.hasVariable(variable)) {
            return NONE;
        }
        return worlds.forceAbove(world, variable);
    }

    public int about(int world, int what, int v) {
        if (!worlds.has(world) || (what == 1 && !formulas.hasVariable(v))) {
            return NONE;
        }
        switch (what) {
            case 0: return worlds.parentOf(world);
            case 1: return worlds.forces(world, v) ? 1 : 0;
            case 2: return Long.bitCount(worlds.above(world));
            default: return OUTSIDE;
        }
    }

    public int holds(int world, int f) {
        if (!worlds.has(world) || !formulas.has(f)) {
            return NONE;
        }
        return ((parts.inWorlds(f, worlds) >>> world) & 1L) == 1L ? 1 : 0;
    }

    /** FORMULAS, of which there is one each, found by a table of chains, and their VARIABLES. */
    private static final class Formulas {
        private static final int CHAINS = 1024;
        private final int room;
        private final int[] kinds;
        private final int[] firsts;
        private final int[] seconds;
        // In both a FORMULA stands as its NUMBER and 1 more, so that 0 is the end.
        private final int[] heads = new int[CHAINS];
        private final int[] nexts;
        private final long[] names = new long[MOST_VARIABLES];
        private int many;
        private int variables;

        Formulas(int most) {
            room = Math.max(most, 0);
            kinds = new int[room];
            firsts = new int[room];
            seconds = new int[room];
            nexts = new int[room];
            joined(FALSE, 0, 0);
            joined(TRUE, 0, 0);
        }

        int many() {
            return many;
        }

        int variables() {
            return variables;
        }

        boolean has(int f) {
            return f >= 0 && f < many && f < room;
        }

        boolean hasVariable(int v) {
            return v >= 0 && v < variables && v < MOST_VARIABLES;
        }

        int kindOf(int f) {
            return has(f) ? kinds[f] : NONE;
        }

        int firstOf(int f) {
            return has(f) ? firsts[f] : NONE;
        }

        int secondOf(int f) {
            return has(f) ? seconds[f] : NONE;
        }

        int find(int kind, int a, int b) {
            return findIn(chainOf(kind, a, b), kind, a, b);
        }

        /** The FORMULA, made if need be; NONE if there is no room for it. */
        int joined(int kind, int a, int b) {
            int chain = chainOf(kind, a, b);
            int f = findIn(chain, kind, a, b);
            return f >= 0 ? f : addTo(chain, kind, a, b);
        }

        private int findIn(int chain, int kind, int a, int b) {
            int f = heads[chain & (CHAINS - 1)] - 1;
            for (int seen = 0; seen < many && f >= 0 && f < room; seen++) {
                if (kinds[f] == kind && firsts[f] == a && seconds[f] == b) {
                    return f;
                }
                f = nexts[f] - 1;
            }
            return NONE;
        }

        private int addTo(int number, int kind, int a, int b) {
            if (many < 0 || many >= room) {
                return NONE;
            }
            int chain = number & (CHAINS - 1);
            int f = many;
            kinds[f] = kind;
            firsts[f] = a;
            seconds[f] = b;
            nexts[f] = heads[chain];
            many++;
            heads[chain] = many;
            return f;
        }

        private static int chainOf(int kind, int a, int b) {
            return (kind * 331 + a * 613 + b * 37) & (CHAINS - 1);
        }

        void drop() {
            for (int f = 0; f < many && f < room; f++) {
                heads[chainOf(kinds[f], firsts[f], seconds[f])] = 0;
            }
            many = 0;
        }

        long nameOf(int v) {
            return hasVariable(v) ? names[v] : 0L;
        }

        int named(long name) {
            for (int v = 0; v < variables && v < MOST_VARIABLES; v++) {
                if (names[v] == name) {
                    return find(VARIABLE, v, 0);
                }
            }
            return NONE;
        }

        boolean hasRoomForVariable() {
            return variables < MOST_VARIABLES;
        }

        int addNamed(long name) {
            if (variables < 0 || variables >= MOST_VARIABLES) {
                return NONE;
            }
            int f = addTo(chainOf(VARIABLE, variables, 0), VARIABLE, variables, 0);
            if (f >= 0) {
                names[variables] = name;
                variables++;
            }
            return f;
        }
    }

    /** THE TEXT and its TOKENS, each scanned only when it is looked at. */
    private static final class Tokens {
        static final int NO_TOKEN = -1;
        static final int END = 0;
        static final int NAME = 'n';
        static final int WORD_TRUE = 't';
        static final int WORD_FALSE = 'f';
        static final int ARROW = '>';
        static final int BOTH_WAYS = '=';
        private static final String SIGNS = "()&|~";
        private static final String TERM_SIGNS = ",TLAPFSIJCX";
        private static final int MOST_SIGNS = 6;
        private static final long PACKED_TRUE = 0x74727565L;
        private static final long PACKED_FALSE = 0x66616c7365L;
        private final byte[] bytes = new byte[MOST_TEXT];
        private int length;
        private boolean ofTerms;
        private boolean looked;
        private int kind;
        private int start;
        private int end;
        private long name;

        int byteAt(int i) {
            return i >= 0 && i < length && i < MOST_TEXT ? bytes[i] & 255 : NONE;
        }

        void drop() {
            length = 0;
        }

        int append(long v, int n) {
            if (n < 0 || n > MOST_TEXT - length) {
                return NO_ROOM;
            }
            for (int i = n - 1; i >= 0; i--) {
                if (length >= 0 && length < MOST_TEXT) {
                    bytes[length] = (byte) (v >>> (8 * i));
                    length++;
                }
            }
            return length;
        }

        void begin(boolean termsToo) {
            ofTerms = termsToo;
            looked = false;
            end = 0;
        }

        int look() {
            if (!looked) {
                looked = true;
                start = end;
                while (start < length && isBlank(byteAt(start))) {
                    start++;
                }
                int sign = byteAt(start);
                if (isLetter(sign)) {
                    scanName();
                } else {
                    scanSign(sign);
                }
            }
            return kind;
        }

        void take() {
            looked = false;
        }

        int start() {
            return start;
        }

        long name() {
            return name;
        }

        /** The number of a hypothesis, if the NAME looked at is one's. */
        int hypothesis() {
            int digits = end - start - 1;
            int first = byteAt(start + 1);
            if (byteAt(start) != 'h' || digits < 1 || (first == '0' && digits > 1)) {
                return NONE;
            }
            int number = 0;
            for (int i = start + 1; i < end; i++) {
                int sign = byteAt(i);
                if (!isDigit(sign)) {
                    return NONE;
                }
                number = number * 10 + sign - '0';
            }
            return number;
        }

        private void scanSign(int sign) {
            if (sign < 0) {
                token(END, 0);
            } else if (sign == '-' && byteAt(start + 1) == '>') {
                token(ARROW, 2);
            } else if (sign == '<' && byteAt(start + 1) == '-' && byteAt(start + 2) == '>') {
                token(BOTH_WAYS, 3);
            } else if (SIGNS.indexOf((char) sign) >= 0 || (ofTerms && TERM_SIGNS.indexOf((char) sign) >= 0)) {
                token(sign, 1);
            } else {
                token(NO_TOKEN, 0);
            }
        }

        private void scanName() {
            int signs = 0;
            long packed = 0L;
            int sign = byteAt(start);
            while (signs <= MOST_SIGNS && (isLetter(sign) || isDigit(sign))) {
                packed = (packed << 8) | sign;
                signs++;
                sign = byteAt(start + signs);
            }
            name = packed;
            if (signs > MOST_SIGNS) {
                token(NO_TOKEN, 0);
            } else if (packed == PACKED_TRUE) {
                token(WORD_TRUE, signs);
            } else if (packed == PACKED_FALSE) {
                token(WORD_FALSE, signs);
            } else {
                token(NAME, signs);
            }
        }

        private void token(int newKind, int signs) {
            kind = newKind;
            end = start + signs;
        }

        private static boolean isBlank(int sign) {
            return sign == 9 || sign == 10 || sign == 13 || sign == 32;
        }

        private static boolean isLetter(int sign) {
            return sign >= 'a' && sign <= 'z';
        }

        private static boolean isDigit(int sign) {
            return sign >= '0' && sign <= '9';
        }
    }

    /**
     * Reads formulas and terms. After a fault look() tells NO_TOKEN, so that all that is being read
     * ends without a further fault. What is open at once keeps the recursion low.
     */
    private static final class Reader {
        private static final int NO_SUCH_TOKEN = 1;
        private static final int MISPLACED = 2;
        private static final int TOO_DEEP = 3;
        private static final int TOO_MANY_VARIABLES = 4;
        private static final int TOO_MANY_FORMULAS = 5;
        private static final int NOT_AROUND = 6;
        private final Formulas formulas;
        private final Tokens tokens;
        private final Terms terms = new Terms(MOST_TEXT);
        private int open;
        private int fault;
        private int faultPlace = NONE;

        Reader(Tokens tokens, Formulas formulas) {
            this.tokens = tokens;
            this.formulas = formulas;
        }

        int wholeFormula() {
            begin(false);
            int f = readBothWays();
            expect(Tokens.END);
            return f;
        }

        int wholeTerm(int around) {
            begin(true);
            terms.drop();
            int t = readTerm(around);
            expect(Tokens.END);
            return t;
        }

        private void begin(boolean termsToo) {
            tokens.begin(termsToo);
            open = 0;
            fault = 0;
            faultPlace = NONE;
        }

        private int fail(int number, int at) {
            if (fault == 0) {
                fault = number;
                faultPlace = at;
            }
            return NONE;
        }

        private int look() {
            if (fault != 0) {
                return Tokens.NO_TOKEN;
            }
            int kind = tokens.look();
            if (kind == Tokens.NO_TOKEN) {
                fail(NO_SUCH_TOKEN, tokens.start());
            }
            return kind;
        }

        private void expect(int kind) {
            if (look() == kind) {
                tokens.take();
            } else {
                fail(MISPLACED, tokens.start());
            }
        }

        /** Takes a token that stays open; the caller closes it. */
        private boolean opens() {
            if (open >= MOST_OPEN) {
                fail(TOO_DEEP, tokens.start());
                return false;
            }
            open++;
            tokens.take();
            return true;
        }

        private int join(int kind, int a, int b, int sign) {
            if (fault != 0) {
                return NONE;
            }
            int f = formulas.joined(kind, a, b);
            return f >= 0 ? f : fail(TOO_MANY_FORMULAS, sign);
        }

        private int readBothWays() {
            int a = readImplication();
            if (look() != Tokens.BOTH_WAYS) {
                return a;
            }
            int sign = tokens.start();
            if (!opens()) {
                return NONE;
            }
            int b = readImplication();
            open--;
            int there = join(IMPLIES, a, b, sign);
            int back = join(IMPLIES, b, a, sign);
            return join(AND, there, back, sign);
        }

        private int readImplication() {
            int a = readOr();
            if (look() != Tokens.ARROW) {
                return a;
            }
            int sign = tokens.start();
            if (!opens()) {
                return NONE;
            }
            int b = readImplication();
            open--;
            return join(IMPLIES, a, b, sign);
        }

        private int readOr() {
            int a = readAnd();
            for (int i = 0; i < MOST_TEXT && look() == '|'; i++) {
                int sign = tokens.start();
                tokens.take();
                a = join(OR, a, readAnd(), sign);
            }
            return a;
        }

        private int readAnd() {
            int a = readNot();
            for (int i = 0; i < MOST_TEXT && look() == '&'; i++) {
                int sign = tokens.start();
                tokens.take();
                a = join(AND, a, readNot(), sign);
            }
            return a;
        }

        // One method for both signs, so that a level of brackets goes through few calls.
        private int readNot() {
            int kind = look();
            if (kind != '~' && kind != '(') {
                return readLeaf(kind);
            }
            int sign = tokens.start();
            if (!opens()) {
                return NONE;
            }
            int a;
            if (kind == '~') {
                a = join(IMPLIES, readNot(), FALSE, sign);
            } else {
                a = readBothWays();
                expect(')');
            }
            open--;
            return a;
        }

        private int readLeaf(int kind) {
            switch (kind) {
                case Tokens.NAME:
                    return readVariable();
                case Tokens.WORD_TRUE:
                    tokens.take();
                    return TRUE;
                case Tokens.WORD_FALSE:
                    tokens.take();
                    return FALSE;
                default:
                    return fail(MISPLACED, tokens.start());
            }
        }

        private int readVariable() {
            int f = formulas.named(tokens.name());
            if (f < 0) {
                if (!formulas.hasRoomForVariable()) {
                    return fail(TOO_MANY_VARIABLES, tokens.start());
                }
                f = formulas.addNamed(tokens.name());
                if (f < 0) {
                    return fail(TOO_MANY_FORMULAS, tokens.start());
                }
            }
            tokens.take();
            return f;
        }

        private int readTerm(int around) {
            int letter = look();
            if (letter == Tokens.NAME) {
                return readHypothesis(around);
            }
            if (letter == Terms.UNIT) {
                tokens.take();
                return terms.unit();
            }
            if (Terms.partsOf(letter) == 0) {
                return fail(MISPLACED, tokens.start());
            }
            if (!opens()) {
                return NONE;
            }
            expect('(');
            int formula = 0;
            if (letter == Terms.LAMBDA) {
                formula = readBothWays();
                expect(',');
            }
            int a = readPart(letter, 0, around);
            int b = readPart(letter, 1, around);
            int c = readPart(letter, 2, around);
            expect(')');
            open--;
            return terms.add(letter, a, letter == Terms.LAMBDA ? formula : b, c, NONE);
        }

        private int readPart(int letter, int part, int around) {
            if (part >= Terms.partsOf(letter)) {
                return 0;
            }
            if (part > 0) {
                expect(',');
            }
            return readTerm(Terms.binds(letter, part) ? around + 1 : around);
        }

        private int readHypothesis(int around) {
            int number = tokens.hypothesis();
            if (number < 0) {
                return fail(MISPLACED, tokens.start());
            }
            if (number >= around) {
                return fail(NOT_AROUND, tokens.start());
            }
            tokens.take();
            return terms.hypothesis(number);
        }
    }

    /**
     * TERMS that share their parts. A hypothesis is a node of its own, and L and C name the one that
     * they bind: so a TERM may come to stand under more hypotheses without being made anew, and the
     * number is only given to the node in writing.
     */
    private static final class Terms {
        static final int HYPOTHESIS = 'h';
        static final int UNIT = 'T';
        static final int LAMBDA = 'L';
        static final int APPLY = 'A';
        static final int PAIR = 'P';
        static final int FIRST = 'F';
        static final int SECOND = 'S';
        static final int LEFT_ONE = 'I';
        static final int RIGHT_ONE = 'J';
        static final int CASES = 'C';
        static final int ANYTHING = 'X';
        private final int room;
        private final int[] kinds;
        private final int[] as;
        private final int[] bs;
        private final int[] cs;
        private final int[] bounds;
        private int many;

        Terms(int nodes) {
            room = Math.max(nodes, 0);
            kinds = new int[room];
            as = new int[room];
            bs = new int[room];
            cs = new int[room];
            bounds = new int[room];
        }

        static int partsOf(int kind) {
            switch (kind) {
                case CASES: return 3;
                case APPLY:
                case PAIR: return 2;
                case LAMBDA:
                case FIRST:
                case SECOND:
                case LEFT_ONE:
                case RIGHT_ONE:
                case ANYTHING: return 1;
                default: return 0;
            }
        }

        static boolean binds(int kind, int part) {
            return kind == LAMBDA || (kind == CASES && part > 0);
        }

        void drop() {
            many = 0;
        }

        int add(int kind, int a, int b, int c, int bound) {
            if (many < 0 || many >= room) {
                return NONE;
            }
            int t = many;
            kinds[t] = kind;
            as[t] = a;
            bs[t] = b;
            cs[t] = c;
            bounds[t] = bound;
            many++;
            return t;
        }

        int hypothesis(int number) {
            return add(HYPOTHESIS, number, 0, 0, NONE);
        }

        int unit() {
            return add(UNIT, 0, 0, 0, NONE);
        }

        int lambda(int formula, int body, int bound) {
            return add(LAMBDA, body, formula, 0, bound);
        }

        int one(int kind, int t) {
            return add(kind, t, 0, 0, NONE);
        }

        int two(int kind, int t, int u) {
            return add(kind, t, u, 0, NONE);
        }

        boolean has(int t) {
            return t >= 0 && t < many && t < room;
        }

        int kindOf(int t) {
            return has(t) ? kinds[t] : NONE;
        }

        int partOf(int t, int part) {
            if (!has(t)) {
                return NONE;
            }
            return part == 0 ? as[t] : part == 1 ? bs[t] : cs[t];
        }

        int numberOf(int t) {
            return partOf(t, 0);
        }

        int formulaOf(int t) {
            return partOf(t, 1);
        }

        void numberBound(int t, int number) {
            int h = has(t) ? bounds[t] : NONE;
            if (has(h)) {
                as[h] = number;
            }
        }
    }

    /** Writes with paths of its own, as FORMULAS and TERMS may be far deeper than calls may stand open. */
    private static final class Writer {
        // Every turn writes a byte at least, and a page that overflows ends it.
        private static final int MOST_TURNS = 2 * MOST_WRITTEN;
        // A level of a TERM has written two bytes before the next one is begun.
        private static final int MOST_TERM_DEEP = MOST_WRITTEN / 2 + 8;
        private final Formulas formulas;
        // The draft takes the place of what was WRITTEN latest only when it has room enough.
        private byte[] latest = new byte[MOST_WRITTEN];
        private byte[] draft = new byte[MOST_WRITTEN];
        private int latestMany;
        private int many;
        private final int[] formulaPath = new int[MOST_FORMULAS];
        private final int[] termPath = new int[MOST_TERM_DEEP];
        private int around;

        Writer(Formulas formulas) {
            this.formulas = formulas;
        }

        int latestByte(int i) {
            return i >= 0 && i < latestMany && i < latest.length ? latest[i] & 255 : NONE;
        }

        int wholeFormula(int f) {
            many = 0;
            putFormula(f);
            return finish();
        }

        int wholeTerm(Terms terms, int t, int hypotheses) {
            many = 0;
            around = hypotheses;
            putTerm(terms, t);
            return finish();
        }

        private int finish() {
            if (overflows()) {
                return NO_ROOM;
            }
            byte[] old = latest;
            latest = draft;
            draft = old;
            latestMany = many;
            return many;
        }

        private boolean overflows() {
            return many > MOST_WRITTEN;
        }

        private void put(int sign) {
            if (many >= 0 && many < draft.length) {
                draft[many] = (byte) sign;
            }
            many = Math.min(many + 1, MOST_WRITTEN + 1);
        }

        private void putWord(String word) {
            for (int i = 0; i < word.length(); i++) {
                put(word.charAt(i));
            }
        }

        private void putNumber(int number) {
            for (int power = 1000000000; power > 0; power /= 10) {
                if (power == 1 || number >= power) {
                    put('0' + number / power % 10);
                }
            }
        }

        // A level of a path is the NUMBER and, in its two lowest bits, how many parts were begun.
        private void putFormula(int f) {
            int top = begin(formulaPath, 0, f);
            for (int turn = 0; turn < MOST_TURNS && top >= 0 && top < MOST_FORMULAS && !overflows(); turn++) {
                int here = formulaPath[top] >> 2;
                int begun = formulaPath[top] & 3;
                int kind = formulas.kindOf(here);
                formulaPath[top]++;
                if (kind < AND) {
                    putAtom(kind, here);
                    top--;
                } else if (begun == 0) {
                    put('(');
                    top = begin(formulaPath, top + 1, formulas.firstOf(here));
                } else if (begun == 1) {
                    putSign(kind);
                    top = begin(formulaPath, top + 1, formulas.secondOf(here));
                } else {
                    put(')');
                    top--;
                }
            }
        }

        private static int begin(int[] path, int level, int number) {
            if (level >= 0 && level < path.length) {
                path[level] = number << 2;
            }
            return level;
        }

        private void putAtom(int kind, int f) {
            if (kind == VARIABLE) {
                putName(formulas.nameOf(formulas.firstOf(f)));
            } else {
                putWord(kind == TRUE ? "true" : "false");
            }
        }

        private void putName(long name) {
            for (int shift = 40; shift >= 0; shift -= 8) {
                int sign = (int) (name >>> shift) & 255;
                if (sign != 0) {
                    put(sign);
                }
            }
        }

        private void putSign(int kind) {
            if (kind == IMPLIES) {
                putWord("->");
            } else {
                put(kind == AND ? '&' : '|');
            }
        }

        private void putTerm(Terms terms, int t) {
            int top = begin(termPath, 0, t);
            for (int turn = 0; turn < MOST_TURNS && top >= 0 && top < MOST_TERM_DEEP && !overflows(); turn++) {
                int here = termPath[top] >> 2;
                int begun = termPath[top] & 3;
                int kind = terms.kindOf(here);
                termPath[top]++;
                if (begun > 0 && Terms.binds(kind, begun - 1)) {
                    around--;
                }
                if (Terms.partsOf(kind) == 0) {
                    putLeaf(terms, kind, here);
                    top--;
                } else if (begun == Terms.partsOf(kind)) {
                    put(')');
                    top--;
                } else {
                    putPartBegin(terms, here, begun);
                    top = begin(termPath, top + 1, terms.partOf(here, begun));
                }
            }
        }

        private void putLeaf(Terms terms, int kind, int t) {
            put(kind);
            if (kind == Terms.HYPOTHESIS) {
                putNumber(terms.numberOf(t));
            }
        }

        private void putPartBegin(Terms terms, int t, int part) {
            int kind = terms.kindOf(t);
            if (part > 0) {
                put(',');
            } else {
                put(kind);
                put('(');
            }
            if (kind == Terms.LAMBDA) {
                putFormula(terms.formulaOf(t));
                put(',');
            }
            if (Terms.binds(kind, part)) {
                terms.numberBound(t, around);
                around++;
            }
        }
    }

    /** A row LEFT and a GOAL for each level of PROVINGS within one another, and for one level more. */
    private static final class Sequents {
        private static final int ROWS = MOST_DEEP + 1;
        private final int[] formulas = new int[ROWS * MOST_LEFT];
        private final int[] termsOf = new int[ROWS * MOST_LEFT];
        private final int[] sizes = new int[ROWS];
        private final int[] goals = new int[ROWS];
        private int most;

        private static boolean isRow(int d) {
            return d >= 0 && d < ROWS;
        }

        private boolean isAt(int d, int i) {
            return d >= 0 && d < ROWS && i >= 0 && i < sizes[d] && i < MOST_LEFT;
        }

        int sizeOf(int d) {
            return isRow(d) ? sizes[d] : 0;
        }

        int goalOf(int d) {
            return isRow(d) ? goals[d] : NONE;
        }

        int formulaAt(int d, int i) {
            return isAt(d, i) ? formulas[d * MOST_LEFT + i] : NONE;
        }

        int termAt(int d, int i) {
            return isAt(d, i) ? termsOf[d * MOST_LEFT + i] : NONE;
        }

        int indexOf(int d, int f) {
            int size = d >= 0 && d < ROWS ? Math.min(sizes[d], MOST_LEFT) : 0;
            for (int i = 0; i < size; i++) {
                if (formulas[d * MOST_LEFT + i] == f) {
                    return i;
                }
            }
            return NONE;
        }

        void begin(int goal) {
            sizes[0] = 0;
            goals[0] = goal;
            most = 0;
        }

        /** Lays the next row: LEFT as it is at d, less the one at an index (NONE for none). */
        void follow(int d, int without, int goal) {
            int next = d + 1;
            if (!isRow(d) || !isRow(next)) {
                return;
            }
            goals[next] = goal;
            int size = 0;
            for (int i = 0; i < sizes[d] && i < MOST_LEFT; i++) {
                if (i != without) {
                    formulas[next * MOST_LEFT + size] = formulas[d * MOST_LEFT + i];
                    termsOf[next * MOST_LEFT + size] = termsOf[d * MOST_LEFT + i];
                    size++;
                }
            }
            sizes[next] = size;
        }

        /** A FORMULA COMES; whether there was room for it. */
        boolean comes(int d, int f, int t) {
            if (indexOf(d, f) >= 0) {
                return true;
            }
            if (!isRow(d) || sizes[d] < 0 || sizes[d] >= MOST_LEFT) {
                return false;
            }
            formulas[d * MOST_LEFT + sizes[d]] = f;
            termsOf[d * MOST_LEFT + sizes[d]] = t;
            sizes[d]++;
            most = Math.max(most, sizes[d]);
            return true;
        }
    }

    /** The worlds of REFUTATIONS, as trees; a PROVING has at most one world of its own. */
    private static final class Refutations {
        private final int[] forced = new int[MOST_STEPS];
        private final int[] children = new int[MOST_STEPS];
        private final int[] siblings = new int[MOST_STEPS];
        private final int[] totals = new int[MOST_STEPS];
        // The children that the PROVING at a level has found so far.
        private final int[] firsts = new int[MOST_DEEP];
        private final int[] lasts = new int[MOST_DEEP];
        private int many;

        void drop() {
            many = 0;
        }

        boolean has(int w) {
            return w >= 0 && w < many && w < MOST_STEPS;
        }

        void begin(int d) {
            if (d >= 0 && d < MOST_DEEP) {
                firsts[d] = NONE;
                lasts[d] = NONE;
            }
        }

        void adopt(int d, int child) {
            if (d < 0 || d >= MOST_DEEP || !has(child)) {
                return;
            }
            if (has(lasts[d])) {
                siblings[lasts[d]] = child;
            } else {
                firsts[d] = child;
            }
            lasts[d] = child;
        }

        int add(int d, int variables) {
            if (d < 0 || d >= MOST_DEEP || many < 0 || many >= MOST_STEPS) {
                return NONE;
            }
            int total = 1;
            int child = firsts[d];
            for (int i = 0; i < many && has(child); i++) {
                total += totals[child];
                child = siblings[child];
            }
            int w = many;
            forced[w] = variables;
            children[w] = firsts[d];
            siblings[w] = NONE;
            totals[w] = total;
            many++;
            return w;
        }

        int forcedIn(int w) {
            return has(w) ? forced[w] : 0;
        }

        int firstChildOf(int w) {
            return has(w) ? children[w] : NONE;
        }

        int siblingOf(int w) {
            return has(w) ? siblings[w] : NONE;
        }

        int totalOf(int w) {
            return has(w) ? totals[w] : 0;
        }
    }

    /**
     * THE SEARCH, with levels of its own: a PROVING begins, and either ends, or lays the SEQUENT of a
     * premise at the next level and goes on when that has ended.
     */
    private static final class Search {
        static final int FAILED = 0;
        static final int PROVED = 1;
        private static final int PREMISE_LAID = 2;
        // What a PROVING waits for.
        private static final int SAME = 0;
        private static final int BODY = 1;
        private static final int PAIR_FIRST = 2;
        private static final int PAIR_SECOND = 3;
        private static final int CASE_LEFT = 4;
        private static final int CASE_RIGHT = 5;
        private static final int GOAL_LEFT = 6;
        private static final int GOAL_RIGHT = 7;
        private static final int NESTED = 8;
        // A STEP makes 8 nodes at most by its rule, and 7 for being the first premise of rule 8.
        private static final int MOST_NODES = 15 * MOST_STEPS + 7 + MOST_GIVEN;
        // A STEP begins once and ends once.
        private static final int MOST_TURNS = 2 * MOST_STEPS + 2;
        private final Formulas formulas;
        private final Terms terms = new Terms(MOST_NODES);
        private final Sequents sequents = new Sequents();
        private final Refutations refutations = new Refutations();
        private final int[] stages = new int[MOST_DEEP];
        private final int[] picks = new int[MOST_DEEP];
        private final int[] helds = new int[MOST_DEEP];
        private final int[] bounds = new int[MOST_DEEP];
        private int limit;
        private int steps;
        private int deepest;
        private int answer = NOT_NOW;
        private int givenMany;
        // The TERM of what was PROVED latest, the REFUTATION of what FAILED latest.
        private int found = NONE;

        Search(Formulas formulas) {
            this.formulas = formulas;
        }

        int run(int[] givens, int many, int goal, int mostSteps) {
            limit = mostSteps;
            steps = 0;
            deepest = 0;
            givenMany = many;
            found = NONE;
            terms.drop();
            refutations.drop();
            sequents.begin(goal);
            for (int i = 0; i < many && i < givens.length; i++) {
                sequents.comes(0, givens[i], terms.hypothesis(i));
            }
            int depth = 0;
            int outcome = PREMISE_LAID;
            for (int turn = 0; turn < MOST_TURNS && depth >= 0 && outcome >= 0; turn++) {
                if (outcome == PREMISE_LAID) {
                    outcome = begin(depth);
                } else {
                    outcome = outcome == PROVED ? goOnProved(depth) : goOnFailed(depth);
                }
                depth += outcome == PREMISE_LAID ? 1 : -1;
            }
            answer = outcome;
            return answer;
        }

        private static void keep(int[] row, int d, int value) {
            if (d >= 0 && d < row.length) {
                row[d] = value;
            }
        }

        private static int kept(int[] row, int d) {
            return d >= 0 && d < row.length ? row[d] : NONE;
        }

        private int provedBy(int term) {
            found = term;
            return PROVED;
        }

        private int waitFor(int d, int stage) {
            keep(stages, d, stage);
            return PREMISE_LAID;
        }

        private int waitIf(boolean room, int d, int stage) {
            return room ? waitFor(d, stage) : FULL;
        }

        private int begin(int d) {
            if (d < 0 || d >= MOST_DEEP) {
                return FULL;
            }
            if (steps >= limit) {
                return SPENT;
            }
            steps++;
            deepest = Math.max(deepest, d + 1);
            refutations.begin(d);
            int goal = sequents.goalOf(d);
            int i = sequents.indexOf(d, goal);
            if (i >= 0) {
                return provedBy(sequents.termAt(d, i));
            }
            i = sequents.indexOf(d, FALSE);
            if (i >= 0) {
                return provedBy(terms.one(Terms.ANYTHING, sequents.termAt(d, i)));
            }
            if (goal == TRUE) {
                return provedBy(terms.unit());
            }
            int kind = formulas.kindOf(goal);
            if (kind == IMPLIES) {
                return beginBody(d, goal);
            }
            if (kind == AND) {
                sequents.follow(d, NONE, formulas.firstOf(goal));
                return waitFor(d, PAIR_FIRST);
            }
            i = firstReducible(d);
            if (i >= 0) {
                return reduce(d, i);
            }
            if (kind == OR) {
                sequents.follow(d, NONE, formulas.firstOf(goal));
                return waitFor(d, GOAL_LEFT);
            }
            return tryNested(d, 0);
        }

        private int beginBody(int d, int goal) {
            keep(bounds, d, terms.hypothesis(0));
            sequents.follow(d, NONE, formulas.secondOf(goal));
            return waitIf(sequents.comes(d + 1, formulas.firstOf(goal), kept(bounds, d)), d, BODY);
        }

        private int variablesIn(int d) {
            int mask = 0;
            for (int i = 0; i < sequents.sizeOf(d); i++) {
                int f = sequents.formulaAt(d, i);
                if (formulas.kindOf(f) == VARIABLE) {
                    mask |= 1 << formulas.firstOf(f);
                }
            }
            return mask;
        }

        private int firstReducible(int d) {
            int variables = variablesIn(d);
            for (int i = 0; i < sequents.sizeOf(d); i++) {
                if (isReducible(sequents.formulaAt(d, i), variables)) {
                    return i;
                }
            }
            return NONE;
        }

        private boolean isReducible(int f, int variables) {
            int kind = formulas.kindOf(f);
            if (kind != IMPLIES) {
                return kind == TRUE || kind == AND || kind == OR;
            }
            int a = formulas.firstOf(f);
            int inner = formulas.kindOf(a);
            if (inner == VARIABLE) {
                return (variables >>> formulas.firstOf(a) & 1) == 1;
            }
            return inner != IMPLIES;
        }

        private int reduce(int d, int i) {
            int f = sequents.formulaAt(d, i);
            int t = sequents.termAt(d, i);
            int next = d + 1;
            sequents.follow(d, i, sequents.goalOf(d));
            switch (formulas.kindOf(f)) {
                case AND:
                    return waitIf(sequents.comes(next, formulas.firstOf(f), terms.one(Terms.FIRST, t))
                            && sequents.comes(next, formulas.secondOf(f), terms.one(Terms.SECOND, t)), d, SAME);
                case OR:
                    keep(picks, d, i);
                    keep(bounds, d, terms.hypothesis(0));
                    return waitIf(sequents.comes(next, formulas.firstOf(f), kept(bounds, d)), d, CASE_LEFT);
                case IMPLIES:
                    return reduceImplication(d, f, t);
                default:
                    return waitFor(d, SAME);
            }
        }

        private int reduceImplication(int d, int f, int t) {
            int a = formulas.firstOf(f);
            int b = formulas.secondOf(f);
            switch (formulas.kindOf(a)) {
                case TRUE:
                    return waitIf(sequents.comes(d + 1, b, terms.two(Terms.APPLY, t, terms.unit())), d, SAME);
                case VARIABLE:
                    int u = sequents.termAt(d, sequents.indexOf(d, a));
                    return waitIf(sequents.comes(d + 1, b, terms.two(Terms.APPLY, t, u)), d, SAME);
                case AND:
                    return waitIf(comesCurried(d + 1, a, b, t), d, SAME);
                case OR:
                    return waitIf(comesSide(d + 1, formulas.firstOf(a), b, t, Terms.LEFT_ONE)
                            && comesSide(d + 1, formulas.secondOf(a), b, t, Terms.RIGHT_ONE), d, SAME);
                default:
                    return waitFor(d, SAME);
            }
        }

        private boolean comesCurried(int d, int both, int goal, int t) {
            int a = formulas.firstOf(both);
            int b = formulas.secondOf(both);
            int inner = formulas.joined(IMPLIES, b, goal);
            int f = inner < 0 ? NONE : formulas.joined(IMPLIES, a, inner);
            if (f < 0) {
                return false;
            }
            int h = terms.hypothesis(0);
            int k = terms.hypothesis(0);
            int applied = terms.two(Terms.APPLY, t, terms.two(Terms.PAIR, h, k));
            return sequents.comes(d, f, terms.lambda(a, terms.lambda(b, applied, k), h));
        }

        private boolean comesSide(int d, int side, int goal, int t, int letter) {
            int f = formulas.joined(IMPLIES, side, goal);
            if (f < 0) {
                return false;
            }
            int h = terms.hypothesis(0);
            int applied = terms.two(Terms.APPLY, t, terms.one(letter, h));
            return sequents.comes(d, f, terms.lambda(side, applied, h));
        }

        private int tryNested(int d, int from) {
            for (int i = Math.max(from, 0); i < sequents.sizeOf(d); i++) {
                int f = sequents.formulaAt(d, i);
                int a = formulas.firstOf(f);
                if (formulas.kindOf(f) == IMPLIES && formulas.kindOf(a) == IMPLIES) {
                    return beginNested(d, i);
                }
            }
            found = refutations.add(d, variablesIn(d));
            return FAILED;
        }

        private int beginNested(int d, int i) {
            int f = sequents.formulaAt(d, i);
            int a = formulas.firstOf(formulas.firstOf(f));
            int b = formulas.secondOf(formulas.firstOf(f));
            int weaker = formulas.joined(IMPLIES, b, formulas.secondOf(f));
            if (weaker < 0) {
                return FULL;
            }
            int h = terms.hypothesis(0);
            int applied = terms.two(Terms.APPLY, sequents.termAt(d, i), terms.lambda(a, h, NONE));
            keep(picks, d, i);
            keep(bounds, d, terms.hypothesis(0));
            sequents.follow(d, i, b);
            return waitIf(sequents.comes(d + 1, weaker, terms.lambda(b, applied, h))
                    && sequents.comes(d + 1, a, kept(bounds, d)), d, NESTED);
        }

        /** Goes on at a level where the premise that was waited for was PROVED. */
        private int goOnProved(int d) {
            switch (kept(stages, d)) {
                case BODY:
                    return provedBy(terms.lambda(formulas.firstOf(sequents.goalOf(d)), found, kept(bounds, d)));
                case PAIR_FIRST:
                    keep(helds, d, found);
                    sequents.follow(d, NONE, formulas.secondOf(sequents.goalOf(d)));
                    return waitFor(d, PAIR_SECOND);
                case PAIR_SECOND:
                    return provedBy(terms.two(Terms.PAIR, kept(helds, d), found));
                case CASE_LEFT:
                    return beginRightCase(d);
                case CASE_RIGHT:
                    int t = sequents.termAt(d, kept(picks, d));
                    return provedBy(terms.add(Terms.CASES, t, kept(helds, d), found, kept(bounds, d)));
                case GOAL_LEFT:
                    return provedBy(terms.one(Terms.LEFT_ONE, found));
                case GOAL_RIGHT:
                    return provedBy(terms.one(Terms.RIGHT_ONE, found));
                case NESTED:
                    return beginAfterNested(d);
                default:
                    return PROVED;
            }
        }

        private int beginRightCase(int d) {
            int f = sequents.formulaAt(d, kept(picks, d));
            keep(helds, d, found);
            sequents.follow(d, kept(picks, d), sequents.goalOf(d));
            return waitIf(sequents.comes(d + 1, formulas.secondOf(f), kept(bounds, d)), d, CASE_RIGHT);
        }

        private int beginAfterNested(int d) {
            int i = kept(picks, d);
            int f = sequents.formulaAt(d, i);
            int body = terms.lambda(formulas.firstOf(formulas.firstOf(f)), found, kept(bounds, d));
            int applied = terms.two(Terms.APPLY, sequents.termAt(d, i), body);
            sequents.follow(d, i, sequents.goalOf(d));
            return waitIf(sequents.comes(d + 1, formulas.secondOf(f), applied), d, SAME);
        }

        private int goOnFailed(int d) {
            switch (kept(stages, d)) {
                case GOAL_LEFT:
                    refutations.adopt(d, found);
                    sequents.follow(d, NONE, formulas.secondOf(sequents.goalOf(d)));
                    return waitFor(d, GOAL_RIGHT);
                case GOAL_RIGHT:
                    refutations.adopt(d, found);
                    return tryNested(d, 0);
                case NESTED:
                    refutations.adopt(d, found);
                    return tryNested(d, kept(picks, d) + 1);
                default:
                    return FAILED;
            }
        }
    }

    /** Asks whether a TERM that was read is a PROOF. No TERM is asked twice. */
    private static final class Checker {
        private static final int MOST_AROUND = MOST_GIVEN + MOST_OPEN;
        private final Formulas formulas;
        private final Terms terms;
        // What TERMS HAVE that is no FORMULA, numbered behind all FORMULAS that there may be.
        private final Formulas others = new Formulas(MOST_TEXT);
        private final int[] around = new int[MOST_AROUND];

        Checker(Formulas formulas, Terms terms) {
            this.formulas = formulas;
            this.terms = terms;
        }

        boolean accepts(int t, int goal, int[] givens, int many) {
            others.drop();
            for (int i = 0; i < many && i < givens.length && i < MOST_AROUND; i++) {
                around[i] = givens[i];
            }
            return isProof(t, goal, many, 0);
        }

        private int kindOf(int f) {
            return f < MOST_FORMULAS ? formulas.kindOf(f) : others.kindOf(f - MOST_FORMULAS);
        }

        private int firstOf(int f) {
            return f < MOST_FORMULAS ? formulas.firstOf(f) : others.firstOf(f - MOST_FORMULAS);
        }

        private int secondOf(int f) {
            return f < MOST_FORMULAS ? formulas.secondOf(f) : others.secondOf(f - MOST_FORMULAS);
        }

        private int joined(int kind, int a, int b) {
            if (a < 0 || b < 0) {
                return NONE;
            }
            int f = formulas.find(kind, a, b);
            if (f >= 0) {
                return f;
            }
            int other = others.joined(kind, a, b);
            return other < 0 ? NONE : MOST_FORMULAS + other;
        }

        private int hypothesis(int i, int n) {
            return i >= 0 && i < n && i < MOST_AROUND ? around[i] : NONE;
        }

        /** Whether there is room for one hypothesis more, which it is then. */
        private boolean binds(int f, int n) {
            if (n < 0 || n >= MOST_AROUND) {
                return false;
            }
            around[n] = f;
            return true;
        }

        private boolean isProof(int t, int goal, int n, int deep) {
            if (goal < 0 || deep > MOST_OPEN) {
                return false;
            }
            int a = terms.partOf(t, 0);
            int b = terms.partOf(t, 1);
            switch (terms.kindOf(t)) {
                case Terms.LAMBDA:
                    return kindOf(goal) == IMPLIES && firstOf(goal) == terms.formulaOf(t)
                            && binds(firstOf(goal), n) && isProof(a, secondOf(goal), n + 1, deep + 1);
                case Terms.PAIR:
                    return kindOf(goal) == AND
                            && isProof(a, firstOf(goal), n, deep + 1) && isProof(b, secondOf(goal), n, deep + 1);
                case Terms.LEFT_ONE:
                    return kindOf(goal) == OR && isProof(a, firstOf(goal), n, deep + 1);
                case Terms.RIGHT_ONE:
                    return kindOf(goal) == OR && isProof(a, secondOf(goal), n, deep + 1);
                case Terms.ANYTHING:
                    return isProof(a, FALSE, n, deep + 1);
                case Terms.CASES:
                    int either = formulaOf(a, n, deep + 1);
                    return kindOf(either) == OR
                            && binds(firstOf(either), n) && isProof(b, goal, n + 1, deep + 1)
                            && binds(secondOf(either), n) && isProof(terms.partOf(t, 2), goal, n + 1, deep + 1);
                default:
                    return formulaOf(t, n, deep) == goal;
            }
        }

        /** What a TERM HAS, or NONE. */
        private int formulaOf(int t, int n, int deep) {
            if (deep > MOST_OPEN) {
                return NONE;
            }
            int a = terms.partOf(t, 0);
            switch (terms.kindOf(t)) {
                case Terms.HYPOTHESIS:
                    return hypothesis(a, n);
                case Terms.UNIT:
                    return TRUE;
                case Terms.LAMBDA:
                    int bound = terms.formulaOf(t);
                    return binds(bound, n) ? joined(IMPLIES, bound, formulaOf(a, n + 1, deep + 1)) : NONE;
                case Terms.PAIR:
                    int first = formulaOf(a, n, deep + 1);
                    return joined(AND, first, formulaOf(terms.partOf(t, 1), n, deep + 1));
                case Terms.APPLY:
                    int function = formulaOf(a, n, deep + 1);
                    return kindOf(function) == IMPLIES
                            && isProof(terms.partOf(t, 1), firstOf(function), n, deep + 1) ? secondOf(function) : NONE;
                case Terms.FIRST:
                    int left = formulaOf(a, n, deep + 1);
                    return kindOf(left) == AND ? firstOf(left) : NONE;
                case Terms.SECOND:
                    int right = formulaOf(a, n, deep + 1);
                    return kindOf(right) == AND ? secondOf(right) : NONE;
                default:
                    return NONE;
            }
        }
    }

    /** Values of a FORMULA's parts, 64 assignments (or all worlds) at once, a bit for each. */
    private static final class Parts {
        // The first six VARIABLES: their values in the 64 assignments of a round.
        private static final long[] PATTERNS = {
            0xAAAAAAAAAAAAAAAAL, 0xCCCCCCCCCCCCCCCCL, 0xF0F0F0F0F0F0F0F0L,
            0xFF00FF00FF00FF00L, 0xFFFF0000FFFF0000L, 0xFFFFFFFF00000000L
        };
        private final Formulas formulas;
        private final byte[] marks = new byte[MOST_FORMULAS];
        private final long[] values = new long[MOST_FORMULAS];

        Parts(Formulas formulas) {
            this.formulas = formulas;
        }

        private static boolean isPart(int f) {
            return f >= 0 && f < MOST_FORMULAS;
        }

        private void mark(int f) {
            if (isPart(f)) {
                marks[f] = 1;
            }
        }

        private long valueOf(int f) {
            return isPart(f) ? values[f] : 0L;
        }

        /** Marks a FORMULA and its parts, which all have lesser NUMBERS; its VARIABLES as bits. */
        private int markAll(int f) {
            for (int i = 0; i <= f && i < MOST_FORMULAS; i++) {
                marks[i] = 0;
            }
            mark(f);
            int variables = 0;
            for (int i = Math.min(f, MOST_FORMULAS - 1); i >= 0; i--) {
                int kind = marks[i] == 1 ? formulas.kindOf(i) : FALSE;
                if (kind == VARIABLE) {
                    variables |= 1 << formulas.firstOf(i);
                } else if (kind >= AND) {
                    mark(formulas.firstOf(i));
                    mark(formulas.secondOf(i));
                }
            }
            return variables;
        }

        int byAllAssignments(int f) {
            int variables = markAll(f);
            int many = Integer.bitCount(variables);
            if (many > MOST_ASSIGNED) {
                return NO_ROOM;
            }
            int rounds = many > 6 ? 1 << (many - 6) : 1;
            for (int round = 0; round < rounds; round++) {
                for (int i = 0; i <= f && i < MOST_FORMULAS; i++) {
                    if (marks[i] == 1) {
                        values[i] = valueBy(i, variables, round);
                    }
                }
                if (valueOf(f) != -1L) {
                    return 0;
                }
            }
            return 1;
        }

        private long valueBy(int f, int variables, int round) {
            switch (formulas.kindOf(f)) {
                case VARIABLE: return assigned(formulas.firstOf(f), variables, round);
                case IMPLIES: return ~failing(f);
                default: return simpleValue(f);
            }
        }

        private static long assigned(int v, int variables, int round) {
            int position = Integer.bitCount(variables & ((1 << v) - 1));
            if (position >= 0 && position < PATTERNS.length) {
                return PATTERNS[position];
            }
            return (round >>> (position - PATTERNS.length) & 1) == 1 ? -1L : 0L;
        }

        /** The worlds that HOLD a FORMULA. */
        long inWorlds(int f, Worlds worlds) {
            markAll(f);
            for (int i = 0; i <= f && i < MOST_FORMULAS; i++) {
                if (marks[i] == 1) {
                    values[i] = valueIn(i, worlds);
                }
            }
            return valueOf(f);
        }

        private long valueIn(int f, Worlds worlds) {
            switch (formulas.kindOf(f)) {
                case VARIABLE: return worlds.forcing(formulas.firstOf(f));
                case IMPLIES: return ~worlds.below(failing(f));
                default: return simpleValue(f);
            }
        }

        private long simpleValue(int f) {
            long a = valueOf(formulas.firstOf(f));
            long b = valueOf(formulas.secondOf(f));
            switch (formulas.kindOf(f)) {
                case TRUE: return -1L;
                case AND: return a & b;
                case OR: return a | b;
                default: return 0L;
            }
        }

        /** Where the first part is so and the second is not. */
        private long failing(int f) {
            return valueOf(formulas.firstOf(f)) & ~valueOf(formulas.secondOf(f));
        }
    }

    /** The tree of WORLDS; sets of worlds are bits of a long, sets of VARIABLES those of an int. */
    private static final class Worlds {
        private final Formulas formulas;
        private final int[] parents = new int[MOST_WORLDS];
        private final int[] forced = new int[MOST_WORLDS];
        // The nodes of a REFUTATION whose worlds have been laid, and these.
        private final int[] nodes = new int[MOST_WORLDS];
        private final int[] numbers = new int[MOST_WORLDS];
        private int many = 1;

        Worlds(Formulas formulas) {
            this.formulas = formulas;
            parents[0] = NONE;
        }

        int many() {
            return many;
        }

        boolean has(int w) {
            return w >= 0 && w < many && w < MOST_WORLDS;
        }

        void drop() {
            many = 1;
            forced[0] = 0;
        }

        int parentOf(int w) {
            return has(w) ? parents[w] : NONE;
        }

        int grow(int parent) {
            if (!has(parent) || many >= MOST_WORLDS) {
                return NO_ROOM;
            }
            lay(many, parent, forced[parent]);
            many++;
            return many - 1;
        }

        private void lay(int w, int parent, int variables) {
            if (w >= 0 && w < MOST_WORLDS) {
                parents[w] = parent;
                forced[w] = variables;
            }
        }

        boolean forces(int w, int v) {
            return has(w) && formulas.hasVariable(v) && (forced[w] >>> v & 1) == 1;
        }

        long forcing(int v) {
            long set = 0L;
            for (int w = 0; w < many && w < MOST_WORLDS; w++) {
                if (forces(w, v)) {
                    set |= 1L << w;
                }
            }
            return set;
        }

        long above(int w) {
            long set = 1L << w;
            for (int k = Math.max(w, 0) + 1; k < many && k < MOST_WORLDS; k++) {
                if ((set >>> parents[k] & 1L) == 1L) {
                    set |= 1L << k;
                }
            }
            return set;
        }

        /** The worlds ABOVE which one of a set is; as a parent has a lesser number, one pass will do. */
        long below(long some) {
            long set = some;
            for (int k = Math.min(many, MOST_WORLDS) - 1; k > 0; k--) {
                if ((set >>> k & 1L) == 1L) {
                    set |= 1L << parents[k];
                }
            }
            return set;
        }

        int forceAbove(int w, int v) {
            long set = above(w);
            int changed = 0;
            for (int k = 0; k < many && k < MOST_WORLDS; k++) {
                if ((set >>> k & 1L) == 1L && !forces(k, v)) {
                    forced[k] |= 1 << v;
                    changed++;
                }
            }
            return changed;
        }

        /** Takes a REFUTATION's worlds for its own; their totals tell each one's number beforehand. */
        int take(Refutations from, int root) {
            int total = from.totalOf(root);
            if (total < 1 || total > MOST_WORLDS) {
                return NO_ROOM;
            }
            lay(0, NONE, from.forcedIn(root));
            nodes[0] = root;
            numbers[0] = 0;
            int laid = 1;
            for (int i = 0; i < laid && i < total; i++) {
                laid = layChildren(from, i, laid);
            }
            many = total;
            return many;
        }

        private int layChildren(Refutations from, int i, int laidBefore) {
            int laid = laidBefore;
            if (i < 0 || i >= MOST_WORLDS) {
                return laid;
            }
            int number = numbers[i] + 1;
            int child = from.firstChildOf(nodes[i]);
            for (; laid >= 0 && laid < MOST_WORLDS && from.has(child); laid++) {
                lay(number, numbers[i], from.forcedIn(child));
                nodes[laid] = child;
                numbers[laid] = number;
                number += from.totalOf(child);
                child = from.siblingOf(child);
            }
            return laid;
        }
    }
}
