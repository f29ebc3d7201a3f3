import java.util.ArrayList;
import java.util.HashMap;
import java.util.IdentityHashMap;
import java.util.List;
import java.util.Map;

/**
 * The document once more, written as plainly as can be (recursion, exceptions, texts, terms whose
 * hypotheses are renumbered whenever they come to stand elsewhere), to be asked beside WorldProver.
 */
final class PlainProver {
    private static final class Fault extends RuntimeException {
        private static final long serialVersionUID = 1L;
        final int number;
        final int place;
        Fault(int number, int place) { this.number = number; this.place = place; }
    }

    private static final class Halt extends RuntimeException {
        private static final long serialVersionUID = 1L;
        final int answer;
        Halt(int answer) { this.answer = answer; }
    }

    private record Shape(int kind, int a, int b) { }

    private record Term(char letter, int number, List<Term> parts, int size) { }

    /** In the place of a term of so many parts that it can only be too long to be written. */
    private static final Term HUGE = new Term('!', 0, List.of(), 8001);

    private record Entry(int f, Term t) { }

    /** What a PROVING came to: a term, or a tree of worlds. */
    private record Outcome(Term term, Tree tree) { }

    private record Tree(List<Integer> forced, List<Tree> children) { }

    private String text = "";
    private final List<Shape> shapes = new ArrayList<>();
    private final Map<Shape, Integer> numbers = new HashMap<>();
    private final List<String> names = new ArrayList<>();
    private final List<Integer> givens = new ArrayList<>();
    private String written = "";
    private int place = -1;

    PlainProver() {
        add(new Shape(0, 0, 0));
        add(new Shape(1, 0, 0));
        clear();
    }

    private int add(Shape s) {
        shapes.add(s);
        numbers.put(s, shapes.size() - 1);
        return shapes.size() - 1;
    }

    private int kind(int f) { return shapes.get(f).kind(); }
    private int first(int f) { return shapes.get(f).a(); }
    private int second(int f) { return shapes.get(f).b(); }
    private boolean isFormula(int f) { return f >= 0 && f < shapes.size(); }

    /** The number, or -1 when there is no room. */
    private int obtain(int kind, int a, int b) {
        Shape s = new Shape(kind, a, b);
        Integer n = numbers.get(s);
        if (n != null) return n;
        return shapes.size() >= 2000 ? -1 : add(s);
    }

    int feed(long v, int n) {
        if (n < 0 || n > 8) return -2;
        if (n == 0) { text = ""; return 0; }
        if (text.length() + n > 3000) return -4;
        StringBuilder s = new StringBuilder(text);
        for (int i = n - 1; i >= 0; i--) s.append((char) ((v >> (8 * i)) & 255));
        text = s.toString();
        return text.length();
    }

    // ---- reading

    private int at;
    private boolean inTerm;
    private int opened;

    private int skip() {
        int i = at;
        while (i < text.length() && "\t\n\r ".indexOf(text.charAt(i)) >= 0) i++;
        return i;
    }

    /** The next token, "" at the end. */
    private String peek() {
        int i = skip();
        if (i == text.length()) return "";
        String rest = text.substring(i);
        for (String sign : new String[] {"<->", "->", "(", ")", "&", "|", "~"}) {
            if (rest.startsWith(sign)) return sign;
        }
        if (inTerm && ",TLAPFSIJCX".indexOf(rest.charAt(0)) >= 0) return rest.substring(0, 1);
        java.util.regex.Matcher m = java.util.regex.Pattern.compile("[a-z][a-z0-9]*").matcher(rest);
        if (m.lookingAt() && m.end() <= 6) return m.group();
        throw new Fault(1, i);
    }

    private void next(String token) { at = skip() + token.length(); }

    private void want(String token) {
        if (!peek().equals(token)) throw new Fault(2, skip());
        next(token);
    }

    private void open() {
        if (opened == 40) throw new Fault(3, skip());
        opened++;
    }

    private int need(int kind, int a, int b, int sign) {
        int f = obtain(kind, a, b);
        if (f < 0) throw new Fault(5, sign);
        return f;
    }

    private int parseFormula() {
        int a = parseImp();
        if (!peek().equals("<->")) return a;
        int sign = skip();
        open();
        next("<->");
        int b = parseImp();
        opened--;
        int ab = need(5, a, b, sign);
        int ba = need(5, b, a, sign);
        return need(3, ab, ba, sign);
    }

    private int parseImp() {
        int a = parseRow(4);
        if (!peek().equals("->")) return a;
        int sign = skip();
        open();
        next("->");
        int b = parseImp();
        opened--;
        return need(5, a, b, sign);
    }

    private int parseRow(int kind) {
        String sign = kind == 4 ? "|" : "&";
        int a = kind == 4 ? parseRow(3) : parseNot();
        while (peek().equals(sign)) {
            int place = skip();
            next(sign);
            int b = kind == 4 ? parseRow(3) : parseNot();
            a = need(kind, a, b, place);
        }
        return a;
    }

    private int parseNot() {
        String token = peek();
        int start = skip();
        if (token.equals("~")) {
            open();
            next(token);
            int a = parseNot();
            opened--;
            return need(5, a, 0, start);
        }
        if (token.equals("(")) {
            open();
            next(token);
            int a = parseFormula();
            want(")");
            opened--;
            return a;
        }
        if (token.isEmpty() || token.charAt(0) < 'a' || token.charAt(0) > 'z') throw new Fault(2, start);
        next(token);
        if (token.equals("true")) return 1;
        if (token.equals("false")) return 0;
        int v = names.indexOf(token);
        if (v >= 0) return numbers.get(new Shape(2, v, 0));
        if (names.size() == 24) throw new Fault(4, start);
        int f = need(2, names.size(), 0, start);
        names.add(token);
        return f;
    }

    private Term parseTerm(int around) {
        String token = peek();
        int start = skip();
        if (token.equals("T")) {
            next(token);
            return leaf('T', 0);
        }
        if (token.matches("h(0|[1-9][0-9]*)")) {
            int i = Integer.parseInt(token.substring(1));
            if (i >= around) throw new Fault(6, start);
            next(token);
            return leaf('h', i);
        }
        if (token.isEmpty() || "LAPFSIJCX".indexOf(token.charAt(0)) < 0) throw new Fault(2, start);
        open();
        next(token);
        want("(");
        char letter = token.charAt(0);
        int f = 0;
        List<Term> parts = new ArrayList<>();
        if (letter == 'L') {
            f = parseFormula();
            want(",");
            parts.add(parseTerm(around + 1));
        } else {
            parts.add(parseTerm(around));
            int more = letter == 'C' ? 2 : letter == 'A' || letter == 'P' ? 1 : 0;
            for (int i = 0; i < more; i++) {
                want(",");
                parts.add(parseTerm(letter == 'C' ? around + 1 : around));
            }
        }
        want(")");
        opened--;
        return node(letter, f, parts);
    }

    private static Term leaf(char letter, int number) { return new Term(letter, number, List.of(), 1); }

    private static Term node(char letter, int number, List<Term> parts) {
        int size = 1;
        for (Term p : parts) size += p.size();
        return size > 8000 ? HUGE : new Term(letter, number, parts, size);
    }

    private void beginReading(boolean term) {
        at = 0;
        opened = 0;
        inTerm = term;
        place = -1;
    }

    int read() {
        beginReading(false);
        try {
            int f = parseFormula();
            want("");
            return f;
        } catch (Fault fault) {
            place = fault.place;
            return -10 - fault.number;
        }
    }

    int place() { return place; }

    int count(int what) {
        return switch (what) {
            case 0 -> shapes.size();
            case 1 -> names.size();
            case 2 -> givens.size();
            case 3 -> parents.size();
            default -> -2;
        };
    }

    int formula(int f, int what) {
        if (!isFormula(f)) return -1;
        return what == 0 ? kind(f) : what == 1 ? first(f) : what == 2 ? second(f) : -2;
    }

    int make(int kind, int a, int b) {
        if (!isFormula(a) || !isFormula(b)) return -1;
        if (kind < 3 || kind > 5) return -2;
        int f = obtain(kind, a, b);
        return f < 0 ? -4 : f;
    }

    // ---- writing

    private void put(StringBuilder s, String part) {
        s.append(part);
        if (s.length() > 8000) throw new Halt(-4);
    }

    private void show(StringBuilder s, int f) {
        switch (kind(f)) {
            case 0 -> put(s, "false");
            case 1 -> put(s, "true");
            case 2 -> put(s, names.get(first(f)));
            default -> {
                put(s, "(");
                show(s, first(f));
                put(s, kind(f) == 3 ? "&" : kind(f) == 4 ? "|" : "->");
                show(s, second(f));
                put(s, ")");
            }
        }
    }

    private void show(StringBuilder s, Term t) {
        if (t == HUGE) throw new Halt(-4);
        if (t.letter() == 'h') { put(s, "h" + t.number()); return; }
        put(s, "" + t.letter());
        if (t.letter() == 'T') return;
        put(s, "(");
        if (t.letter() == 'L') { show(s, t.number()); put(s, ","); }
        for (int i = 0; i < t.parts().size(); i++) {
            if (i > 0) put(s, ",");
            show(s, t.parts().get(i));
        }
        put(s, ")");
    }

    int write(int f) {
        if (!isFormula(f)) return -1;
        try {
            StringBuilder s = new StringBuilder();
            show(s, f);
            written = s.toString();
            return written.length();
        } catch (Halt h) {
            return h.answer;
        }
    }

    int octet(int i) { return i >= 0 && i < written.length() ? written.charAt(i) : -1; }

    // ---- proving

    int given(int f) {
        if (!isFormula(f)) return -1;
        if (givens.size() == 20) return -4;
        givens.add(f);
        return givens.size();
    }

    int forget() {
        int n = givens.size();
        givens.clear();
        return n;
    }

    private int steps;
    private int limit;
    private int most;
    private int deepest;
    private int answer = -3;
    private Outcome outcome;

    int prove(int f, int maxSteps) {
        if (!isFormula(f)) return -1;
        if (maxSteps < 0 || maxSteps > 2000) return -2;
        steps = 0;
        limit = maxSteps;
        most = 0;
        deepest = 0;
        outcome = null;
        try {
            List<Entry> left = new ArrayList<>();
            for (int i = 0; i < givens.size(); i++) come(left, givens.get(i), leaf('h', i));
            outcome = proving(left, f, givens.size(), 0);
            answer = outcome.term() != null ? 1 : 0;
        } catch (Halt h) {
            answer = h.answer;
        }
        return answer;
    }

    private int find(List<Entry> left, int f) {
        for (int i = 0; i < left.size(); i++) if (left.get(i).f() == f) return i;
        return -1;
    }

    private void come(List<Entry> left, int f, Term t) {
        if (find(left, f) >= 0) return;
        if (left.size() == 60) throw new Halt(-7);
        left.add(new Entry(f, t));
        most = Math.max(most, left.size());
    }

    private int arrow(int a, int b) {
        int f = obtain(5, a, b);
        if (f < 0) throw new Halt(-7);
        return f;
    }

    private static Term term(char letter, Term... parts) { return node(letter, 0, List.of(parts)); }
    private static Term lambda(int f, Term body) { return node('L', f, List.of(body)); }

    /** A term made under n hypotheses, as it stands under so many more. */
    private static Term shift(Term t, int n, int more, IdentityHashMap<Term, Term> done) {
        Term known = done.get(t);
        if (known != null) return known;
        Term made;
        if (t.letter() == 'h') {
            made = t.number() < n ? t : leaf('h', t.number() + more);
        } else {
            List<Term> parts = new ArrayList<>();
            for (Term p : t.parts()) parts.add(shift(p, n, more, done));
            made = t.parts().isEmpty() ? t : node(t.letter(), t.number(), parts);
        }
        done.put(t, made);
        return made;
    }

    private static Term shift(Term t, int n, int more) { return shift(t, n, more, new IdentityHashMap<>()); }

    private static List<Entry> without(List<Entry> left, int i, int n, int more) {
        IdentityHashMap<Term, Term> done = new IdentityHashMap<>();
        List<Entry> rest = new ArrayList<>();
        for (int k = 0; k < left.size(); k++) {
            Entry e = left.get(k);
            if (k != i) rest.add(more == 0 ? e : new Entry(e.f(), shift(e.t(), n, more, done)));
        }
        return rest;
    }

    private Outcome by(Term t) { return new Outcome(t, null); }

    private Outcome proving(List<Entry> left, int goal, int n, int within) {
        if (within >= 200) throw new Halt(-7);
        if (steps == limit) throw new Halt(-6);
        steps++;
        deepest = Math.max(deepest, within + 1);
        int i = find(left, goal);
        if (i >= 0) return by(left.get(i).t());
        i = find(left, 0);
        if (i >= 0) return by(term('X', left.get(i).t()));
        if (goal == 1) return by(leaf('T', 0));
        if (kind(goal) == 5) {
            List<Entry> next = without(left, -1, n, 1);
            come(next, first(goal), leaf('h', n));
            Outcome o = proving(next, second(goal), n + 1, within + 1);
            return o.term() == null ? o : by(lambda(first(goal), o.term()));
        }
        if (kind(goal) == 3) {
            Outcome o = proving(left, first(goal), n, within + 1);
            if (o.term() == null) return o;
            Outcome p = proving(left, second(goal), n, within + 1);
            return p.term() == null ? p : by(term('P', o.term(), p.term()));
        }
        for (i = 0; i < left.size(); i++) {
            Outcome o = simplify(left, i, goal, n, within);
            if (o != null) return o;
        }
        return branch(left, goal, n, within);
    }

    /** Rule 6 for one of LEFT; null if it does not fit. */
    private Outcome simplify(List<Entry> left, int i, int goal, int n, int within) {
        int f = left.get(i).f();
        Term t = left.get(i).t();
        List<Entry> next = without(left, i, n, 0);
        if (kind(f) == 3) {
            come(next, first(f), term('F', t));
            come(next, second(f), term('S', t));
        } else if (kind(f) == 4) {
            return cases(left, i, goal, n, within);
        } else if (kind(f) == 5) {
            int a = first(f);
            int d = second(f);
            if (kind(a) == 1) {
                come(next, d, term('A', t, leaf('T', 0)));
            } else if (kind(a) == 2) {
                int p = find(left, a);
                if (p < 0) return null;
                come(next, d, term('A', t, left.get(p).t()));
            } else if (kind(a) == 3) {
                int inner = arrow(second(a), d);
                Term pair = term('P', leaf('h', n), leaf('h', n + 1));
                come(next, arrow(first(a), inner),
                    lambda(first(a), lambda(second(a), term('A', shift(t, n, 2), pair))));
            } else if (kind(a) == 4) {
                Term up = shift(t, n, 1);
                come(next, arrow(first(a), d), lambda(first(a), term('A', up, term('I', leaf('h', n)))));
                come(next, arrow(second(a), d), lambda(second(a), term('A', up, term('J', leaf('h', n)))));
            } else if (kind(a) == 5) {
                return null;
            }
        } else if (kind(f) != 1) {
            return null;
        }
        return proving(next, goal, n, within + 1);
    }

    private Outcome cases(List<Entry> left, int i, int goal, int n, int within) {
        int f = left.get(i).f();
        List<Entry> next = without(left, i, n, 1);
        come(next, first(f), leaf('h', n));
        Outcome u = proving(next, goal, n + 1, within + 1);
        if (u.term() == null) return u;
        next = without(left, i, n, 1);
        come(next, second(f), leaf('h', n));
        Outcome v = proving(next, goal, n + 1, within + 1);
        return v.term() == null ? v : by(term('C', left.get(i).t(), u.term(), v.term()));
    }

    /** Rules 7 to 9. */
    private Outcome branch(List<Entry> left, int goal, int n, int within) {
        List<Tree> failures = new ArrayList<>();
        if (kind(goal) == 4) {
            Outcome o = proving(left, first(goal), n, within + 1);
            if (o.term() != null) return by(term('I', o.term()));
            failures.add(o.tree());
            o = proving(left, second(goal), n, within + 1);
            if (o.term() != null) return by(term('J', o.term()));
            failures.add(o.tree());
        }
        List<Integer> forced = new ArrayList<>();
        for (int i = 0; i < left.size(); i++) {
            int f = left.get(i).f();
            if (kind(f) == 2) forced.add(first(f));
            if (kind(f) != 5 || kind(first(f)) != 5) continue;
            Term t = left.get(i).t();
            int a = first(first(f));
            int b = second(first(f));
            int d = second(f);
            List<Entry> next = without(left, i, n, 1);
            come(next, arrow(b, d), lambda(b, term('A', shift(t, n, 2), lambda(a, leaf('h', n + 1)))));
            come(next, a, leaf('h', n));
            Outcome u = proving(next, b, n + 1, within + 1);
            if (u.term() == null) { failures.add(u.tree()); continue; }
            next = without(left, i, n, 0);
            come(next, d, term('A', t, lambda(a, u.term())));
            return proving(next, goal, n, within + 1);
        }
        return new Outcome(null, new Tree(forced, failures));
    }

    int told(int what) {
        return switch (what) {
            case 0 -> steps;
            case 1 -> most;
            case 2 -> deepest;
            case 3 -> answer;
            default -> -2;
        };
    }

    int proof() {
        if (answer != 1) return -3;
        try {
            StringBuilder s = new StringBuilder();
            show(s, outcome.term());
            written = s.toString();
            return written.length();
        } catch (Halt h) {
            return h.answer;
        }
    }

    // ---- checking, with what terms have as texts

    private String textOf(int f) {
        return switch (kind(f)) {
            case 0 -> "0";
            case 1 -> "1";
            case 2 -> "v" + first(f) + ".";
            default -> "&|>".charAt(kind(f) - 3) + textOf(first(f)) + textOf(second(f));
        };
    }

    /** Where the first part of a text "&ab", "|ab", ">ab" ends. */
    private static int middle(String f) {
        int want = 1;
        int i = 1;
        while (want > 0) {
            char c = f.charAt(i);
            if (c == 'v') i = f.indexOf('.', i);
            want += "&|>".indexOf(c) >= 0 ? 1 : -1;
            i++;
        }
        return i;
    }

    private static boolean is(String f, char sign) { return f != null && f.charAt(0) == sign; }
    private static String left(String f) { return f.substring(1, middle(f)); }
    private static String right(String f) { return f.substring(middle(f)); }

    private static List<String> with(List<String> around, String f) {
        List<String> more = new ArrayList<>(around);
        more.add(f);
        return more;
    }

    private boolean isProof(Term t, String g, List<String> around) {
        return switch (t.letter()) {
            case 'L' -> is(g, '>') && left(g).equals(textOf(t.number()))
                && isProof(t.parts().get(0), right(g), with(around, left(g)));
            case 'P' -> is(g, '&') && isProof(t.parts().get(0), left(g), around)
                && isProof(t.parts().get(1), right(g), around);
            case 'I' -> is(g, '|') && isProof(t.parts().get(0), left(g), around);
            case 'J' -> is(g, '|') && isProof(t.parts().get(0), right(g), around);
            case 'X' -> isProof(t.parts().get(0), "0", around);
            case 'C' -> {
                String or = has(t.parts().get(0), around);
                yield is(or, '|') && isProof(t.parts().get(1), g, with(around, left(or)))
                    && isProof(t.parts().get(2), g, with(around, right(or)));
            }
            default -> g.equals(has(t, around));
        };
    }

    private String has(Term t, List<String> around) {
        switch (t.letter()) {
            case 'h': return around.get(t.number());
            case 'T': return "1";
            case 'L': {
                String a = textOf(t.number());
                String b = has(t.parts().get(0), with(around, a));
                return b == null ? null : ">" + a + b;
            }
            case 'P': {
                String a = has(t.parts().get(0), around);
                String b = has(t.parts().get(1), around);
                return a == null || b == null ? null : "&" + a + b;
            }
            case 'A': {
                String f = has(t.parts().get(0), around);
                return is(f, '>') && isProof(t.parts().get(1), left(f), around) ? right(f) : null;
            }
            case 'F':
            case 'S': {
                String f = has(t.parts().get(0), around);
                return !is(f, '&') ? null : t.letter() == 'F' ? left(f) : right(f);
            }
            default: return null;
        }
    }

    int check(int f) {
        if (!isFormula(f)) return -1;
        beginReading(true);
        try {
            Term t = parseTerm(givens.size());
            want("");
            List<String> around = new ArrayList<>();
            for (int g : givens) around.add(textOf(g));
            return isProof(t, textOf(f), around) ? 1 : 0;
        } catch (Fault fault) {
            place = fault.place;
            return -10 - fault.number;
        }
    }

    // ---- assignments

    private void gather(int f, List<Integer> variables, boolean[] seen) {
        if (seen[f]) return;
        seen[f] = true;
        if (kind(f) == 2) variables.add(first(f));
        if (kind(f) >= 3) {
            gather(first(f), variables, seen);
            gather(second(f), variables, seen);
        }
    }

    private boolean value(int f, int assigned, Map<Integer, Boolean> known) {
        Boolean old = known.get(f);
        if (old != null) return old;
        boolean v = switch (kind(f)) {
            case 0 -> false;
            case 1 -> true;
            case 2 -> (assigned >> first(f) & 1) == 1;
            case 3 -> value(first(f), assigned, known) & value(second(f), assigned, known);
            case 4 -> value(first(f), assigned, known) | value(second(f), assigned, known);
            default -> !value(first(f), assigned, known) | value(second(f), assigned, known);
        };
        known.put(f, v);
        return v;
    }

    int classical(int f) {
        if (!isFormula(f)) return -1;
        List<Integer> variables = new ArrayList<>();
        gather(f, variables, new boolean[shapes.size()]);
        if (variables.size() > 12) return -4;
        for (int bits = 0; bits < 1 << variables.size(); bits++) {
            int assigned = 0;
            for (int i = 0; i < variables.size(); i++) assigned |= (bits >> i & 1) << variables.get(i);
            if (!value(f, assigned, new HashMap<>())) return 0;
        }
        return 1;
    }

    // ---- worlds

    private List<Integer> parents;
    private List<boolean[]> forced;

    int clear() {
        int were = parents == null ? 0 : parents.size();
        parents = new ArrayList<>(List.of(-1));
        forced = new ArrayList<>();
        forced.add(new boolean[24]);
        return were;
    }

    private static int size(Tree t) {
        int n = 1;
        for (Tree c : t.children()) n += size(c);
        return n;
    }

    private void lay(Tree t, int parent) {
        int w = parents.size();
        parents.add(parent);
        boolean[] in = new boolean[24];
        for (int v : t.forced()) in[v] = true;
        forced.add(in);
        for (Tree c : t.children()) lay(c, w);
    }

    int refute() {
        if (answer != 0) return -3;
        if (size(outcome.tree()) > 60) return -4;
        parents = new ArrayList<>();
        forced = new ArrayList<>();
        lay(outcome.tree(), -1);
        return parents.size();
    }

    private boolean isWorld(int w) { return w >= 0 && w < parents.size(); }
    private boolean isVariable(int v) { return v >= 0 && v < names.size(); }

    int world(int parent) {
        if (!isWorld(parent)) return -1;
        if (parents.size() == 60) return -4;
        parents.add(parent);
        forced.add(forced.get(parent).clone());
        return parents.size() - 1;
    }

    private boolean isAbove(int w, int root) {
        while (w > root) w = parents.get(w);
        return w == root;
    }

    int force(int world, int variable) {
        if (!isWorld(world) || !isVariable(variable)) return -1;
        int n = 0;
        for (int w = 0; w < parents.size(); w++) {
            if (isAbove(w, world) && !forced.get(w)[variable]) {
                forced.get(w)[variable] = true;
                n++;
            }
        }
        return n;
    }

    int about(int world, int what, int v) {
        if (!isWorld(world) || what == 1 && !isVariable(v)) return -1;
        if (what == 0) return parents.get(world);
        if (what == 1) return forced.get(world)[v] ? 1 : 0;
        if (what != 2) return -2;
        int n = 0;
        for (int w = 0; w < parents.size(); w++) if (isAbove(w, world)) n++;
        return n;
    }

    private boolean holds(int w, int f, Map<Integer, Boolean> known) {
        Boolean old = known.get(f * 64 + w);
        if (old != null) return old;
        boolean v = switch (kind(f)) {
            case 0 -> false;
            case 1 -> true;
            case 2 -> forced.get(w)[first(f)];
            case 3 -> holds(w, first(f), known) && holds(w, second(f), known);
            case 4 -> holds(w, first(f), known) || holds(w, second(f), known);
            default -> {
                boolean all = true;
                for (int k = w; k < parents.size(); k++) {
                    if (isAbove(k, w) && holds(k, first(f), known) && !holds(k, second(f), known)) all = false;
                }
                yield all;
            }
        };
        known.put(f * 64 + w, v);
        return v;
    }

    int holds(int world, int f) {
        if (!isWorld(world) || !isFormula(f)) return -1;
        return holds(world, f, new HashMap<>()) ? 1 : 0;
    }
}
