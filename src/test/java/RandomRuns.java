import java.util.ArrayList;
import java.util.List;
import java.util.Map;
import java.util.Random;
import java.util.TreeMap;

/** Random runs of calls, asked of WorldProver and of PlainProver; each answer has to be the same. */
public final class RandomRuns {
    private static final int RUNS = 3000;
    private static final int MOST_TOLD = 20;
    private static final Map<String, Integer> seen = new TreeMap<>();
    private static int wrong = 0;

    private final int seed;
    private final Random random;
    private final WorldProver x = new WorldProver();
    private final PlainProver y = new PlainProver();
    private final List<String> calls = new ArrayList<>();
    private int variables = 3;

    private RandomRuns(int seed) {
        this.seed = seed;
        random = new Random(seed);
    }

    public static void main(String[] args) {
        int from = args.length > 0 ? Integer.parseInt(args[0]) : 0;
        int to = args.length > 1 ? Integer.parseInt(args[1]) : RUNS;
        for (int seed = from; seed < to && wrong < MOST_TOLD; seed++) new RandomRuns(seed).run();
        if (args.length > 2) for (Map.Entry<String, Integer> e : seen.entrySet()) System.out.println(e);
        missing();
        System.out.println(wrong == 0 ? "random runs: all answers agree" : "random runs: " + wrong + " differ");
        if (wrong != 0) System.exit(1);
    }

    /** The runs are worth little if they do not reach the refusals. */
    private static void missing() {
        String[] due = {
            "read -11", "read -12", "read -13", "read -14", "read -15",
            "check 0", "check 1", "check -1", "check -11", "check -12", "check -13", "check -14", "check -15", "check -16",
            "prove 0", "prove 1", "prove -1", "prove -2", "prove -6", "prove -7",
            "proof -3", "proof -4", "refute -3", "refute -4", "write -1", "write -4", "given -4", "make -1", "make -2", "make -4",
            "world -1", "world -4", "force -1", "classical 0", "classical 1", "classical -4", "holds 0", "holds 1", "feed -4"
        };
        for (String d : due) {
            if (!seen.containsKey(d)) {
                wrong++;
                System.out.println("no run met: " + d);
            }
        }
    }

    private int same(String name, String call, int got, int want) {
        calls.add(call + " = " + want);
        seen.merge(name + " " + (want > 1 ? "n" : "" + want), 1, Integer::sum);
        if (got != want && wrong < MOST_TOLD) {
            wrong++;
            System.out.println("seed " + seed + ": " + call + " answered " + got + ", the plain one " + want);
            int from = Math.max(0, calls.size() - 12);
            for (String c : calls.subList(from, calls.size())) System.out.println("    " + c);
        }
        return want;
    }

    // ---- the calls, on both

    private void feed(String s) {
        same("feed", "feed(0, 0)", x.feed(0, 0), y.feed(0, 0));
        for (int i = 0; i < s.length(); i += 8) {
            int n = Math.min(8, s.length() - i);
            long v = random.nextLong();
            for (int k = 0; k < n; k++) v = v << 8 | s.charAt(i + k);
            same("feed", "feed(" + s.substring(i, i + n) + ")", x.feed(v, n), y.feed(v, n));
        }
    }

    private int read(String s) {
        feed(s);
        int f = same("read", "read()", x.read(), y.read());
        same("place", "place()", x.place(), y.place());
        counts();
        return f;
    }

    private void counts() {
        for (int what = -1; what < 5; what++) same("count", "count(" + what + ")", x.count(what), y.count(what));
    }

    private int make(int kind, int a, int b) {
        return same("make", "make(" + kind + ", " + a + ", " + b + ")", x.make(kind, a, b), y.make(kind, a, b));
    }

    private String page(int bytes) {
        StringBuilder s = new StringBuilder();
        for (int i = -1; i <= Math.max(bytes, 0); i++) {
            int c = same("octet", "octet(" + i + ")", x.octet(i), y.octet(i));
            if (c >= 0) s.append((char) c);
        }
        return s.toString();
    }

    private int prove(int f, int steps) {
        int answer = same("prove", "prove(" + f + ", " + steps + ")", x.prove(f, steps), y.prove(f, steps));
        for (int what = -1; what < 5; what++) same("told", "told(" + what + ")", x.told(what), y.told(what));
        same("count", "count(0)", x.count(0), y.count(0));
        return answer;
    }

    private int proof() { return same("proof", "proof()", x.proof(), y.proof()); }

    private int check(int f) {
        int answer = same("check", "check(" + f + ")", x.check(f), y.check(f));
        same("place", "place()", x.place(), y.place());
        same("count", "count(0)", x.count(0), y.count(0));
        return answer;
    }

    private void worlds() {
        int n = same("count", "count(3)", x.count(3), y.count(3));
        for (int w = -1; w <= n; w++) {
            same("about", "about(" + w + ", 0, 0)", x.about(w, 0, 0), y.about(w, 0, 0));
            same("about", "about(" + w + ", 2, 0)", x.about(w, 2, 0), y.about(w, 2, 0));
            for (int v = -1; v < 4; v++) {
                same("about", "about(" + w + ", 1, " + v + ")", x.about(w, 1, v), y.about(w, 1, v));
            }
        }
        same("about", "about(0, 3, 0)", x.about(0, 3, 0), y.about(0, 3, 0));
    }

    private int holds(int w, int f) {
        return same("holds", "holds(" + w + ", " + f + ")", x.holds(w, f), y.holds(w, f));
    }

    private void given(int f) { same("given", "given(" + f + ")", x.given(f), y.given(f)); }

    private void forget() { same("forget", "forget()", x.forget(), y.forget()); }

    private void write(int f) {
        int n = same("write", "write(" + f + ")", x.write(f), y.write(f));
        if (random.nextInt(10) == 0) page(n);
        else same("octet", "octet(5)", x.octet(5), y.octet(5));
    }

    private void classical(int f) {
        same("classical", "classical(" + f + ")", x.classical(f), y.classical(f));
    }

    // ---- what to ask

    private void run() {
        int kind = seed % 100;
        variables = 1 + random.nextInt(4);
        if (kind < 8) texts();
        else if (kind < 12) full();
        else if (kind < 14) deep();
        else if (kind < 17) wide();
        else if (kind < 25) byHand();
        else if (kind < 55) proofs(1 + random.nextInt(12));
        else if (kind < 60) manySteps(kind == 59 ? 40 : 6);
        else if (kind < 63) wideTerms();
        else if (kind < 66) edges();
        else mixed();
    }

    private String name() {
        String[] names = {"a", "b", "c", "d1"};
        return names[random.nextInt(variables)];
    }

    private String text(int size) {
        if (size <= 0) {
            int r = random.nextInt(12);
            return r == 0 ? "true" : r == 1 ? "false" : name();
        }
        int left = random.nextInt(size);
        String a = text(left);
        String b = text(size - 1 - left);
        String blank = random.nextInt(8) == 0 ? " " : "";
        switch (random.nextInt(9)) {
            case 0: return "~" + blank + "(" + text(size - 1) + ")";
            case 1: return "(" + a + ")" + "&" + blank + "(" + b + ")";
            case 2: return "(" + a + blank + ")" + "|" + "(" + b + ")";
            case 3: return "(" + a + "<->" + b + ")";
            case 4: return a + "->" + blank + b;
            default: return "(" + a + ")" + blank + "->(" + b + ")";
        }
    }

    private String soup(int tokens, boolean terms) {
        String[] of = {"a", "b", "c", "(", ")", "&", "|", "~", "->", "<->", "true", "false", " ", "h0", "\n"};
        String[] also = {"L(", "A(", "P(", "F(", "S(", "I(", "J(", "C(", "X(", "T", ",", ",", "h0", "h1", "h2", ")", "h00"};
        String[] odd = {"-", "<", "<-", "abcdefg", "abcdef", "B", "9", "?", "\u00e9", "\0", "L", ",", "h", "h01", "a1", "h12345"};
        StringBuilder s = new StringBuilder();
        for (int i = 0; i < tokens; i++) {
            int r = random.nextInt(20);
            String[] row = r == 0 ? odd : terms && r < 14 ? also : of;
            s.append(row[random.nextInt(row.length)]);
        }
        return s.toString();
    }

    private String mutated(String s) {
        int edits = 1 + random.nextInt(2);
        StringBuilder t = new StringBuilder(s);
        for (int i = 0; i < edits && t.length() > 0; i++) {
            int at = random.nextInt(t.length());
            String signs = "abc()&|~->, hTLAPFSIJCX0123";
            char c = signs.charAt(random.nextInt(signs.length()));
            switch (random.nextInt(3)) {
                case 0: t.setCharAt(at, c); break;
                case 1: t.insert(at, c); break;
                default: t.deleteCharAt(at); break;
            }
        }
        return t.toString();
    }

    private static String times(String s, int n) { return s.repeat(Math.max(n, 0)); }

    private void texts() {
        for (int i = 0; i < 60; i++) {
            read(soup(1 + random.nextInt(9), random.nextInt(6) == 0));
            read(mutated(text(random.nextInt(6))));
            feed(soup(1 + random.nextInt(12), true));
            check(random.nextInt(12) - 1);
        }
        String[] openers = {"(", "~", "a->", "(a<->", "~(", "a&(b->"};
        for (String o : openers) {
            for (int n = 18; n < 43; n++) {
                read(times(o, n) + "a");
                read(times(o, n) + "a" + times(")", n));
            }
        }
        String[] letters = {"F(", "L(a,", "L(~a,", "P(T,", "C(T,T,", "A(L(((a)),"};
        for (String o : letters) {
            for (int n = 19; n < 43; n++) {
                feed(times(o, n) + "T" + times(")", n));
                check(1);
            }
        }
        for (int i = 0; i < 30; i++) read("x" + i + "&y" + i + (i % 2 == 0 ? "" : "?"));
        feed("L(z->z|zz,h0)");
        check(1);
        for (int i = 0; i < 22; i++) given(i);
        feed(times("a ", 1496 + random.nextInt(6)));
        same("feed", "feed(.., 8)", x.feed(-1L, 8), y.feed(-1L, 8));
        same("feed", "feed(.., 5)", x.feed(-1L, 5), y.feed(-1L, 5));
        read(times(" ", 3000));
    }

    private void full() {
        int length = 700 + random.nextInt(700);
        read("a" + times("&a", length));
        read("b" + times("|a", length));
        int r = random.nextInt(3);
        int left = random.nextInt(12);
        while (y.count(0) < 2000 - left) make(3 + r, y.count(0) - 1, random.nextInt(2));
        for (int i = 0; i < 12; i++) {
            String[] also = {"n1->n2", "a<->b", "~n3 & n4", "(a|b)<->~a", "n5|n6&n7", "n8"};
            read(random.nextBoolean() ? also[random.nextInt(also.length)] : text(random.nextInt(4)));
            feed("L(" + text(random.nextInt(3)) + ",h0)");
            check(random.nextInt(6));
            make(3 + random.nextInt(3), random.nextInt(20), random.nextInt(20));
            prove(random.nextInt(12), random.nextInt(300));
            given(random.nextInt(2000));
        }
        for (int i = 0; i < 8; i++) {
            classical(random.nextInt(2001));
            write(random.nextInt(2001));
            holds(0, random.nextInt(2001));
        }
    }

    private void deep() {
        int a = read("a");
        int b = read("b");
        int f = random.nextBoolean() ? a : b;
        int n = 190 + random.nextInt(25);
        for (int i = 0; i < n; i++) f = make(5, i % 2 == 0 ? a : f - 1, f);
        prove(f, 2000);
        page(proof());
        f = make(5, b, random.nextBoolean() ? make(3, b, b) : make(4, a, b));
        for (int i = 0; i < 70 + random.nextInt(100); i++) f = make(5, i % 9 == 0 ? make(5, f, a) : 1, f);
        prove(f, 2000);
        page(proof());
        f = a;
        for (int i = 0; i < n; i++) f = make(3, f, b);
        given(f);
        prove(make(5, a, 0), 2000);
        proof();
        same("refute", "refute()", x.refute(), y.refute());
        f = make(4, a, b);
        for (int i = 0; i < 14; i++) f = make(5, f, f);
        write(f);
        f = 0;
        for (int i = 0; i < 190 + random.nextInt(20); i++) f = make(5, f, 0);
        prove(make(5, f, a), 2000);
        write(f);
        proof();
        forget();
        String[] late = {"n1&n2->a", "n1|n2->a", "(n1->n2)->n3", "n1&(n2&n3)", "n1|n2"};
        given(read(late[random.nextInt(late.length)]));
        f = a;
        for (int i = 0; i < 196 + random.nextInt(5); i++) f = make(5, 1, f);
        prove(f, 2000);
        same("refute", "refute()", x.refute(), y.refute());
        worlds();
    }

    /** LEFT is made long: by what is given, by a long row, and by what comes of long disjunctions. */
    private void wide() {
        int n = 2 + random.nextInt(22);
        StringBuilder s = new StringBuilder();
        for (int i = 0; i < n; i++) {
            s.append(i == 0 ? "" : random.nextInt(3) == 0 ? "&" : random.nextInt(2) == 0 ? "&~" : "|");
            s.append("v").append(i);
        }
        int row = read(s.toString());
        StringBuilder t = new StringBuilder();
        int m = 25 + random.nextInt(60);
        for (int i = 0; i < m; i++) {
            t.append(i == 0 ? "" : "&").append("(v").append(random.nextInt(n)).append("->v").append(random.nextInt(n)).append(")");
        }
        int second = read(t.toString());
        classical(row);
        classical(second);
        given(row);
        if (random.nextBoolean()) given(make(5, row, 0));
        given(second);
        for (int i = 0; i < 5; i++) {
            prove(random.nextInt(Math.min(60, y.count(0))), random.nextInt(2001));
            proof();
            same("refute", "refute()", x.refute(), y.refute());
        }
        worlds();
    }

    private void byHand() {
        read("a & b | c -> a | ~d1");
        variables = 4;
        int worlds = random.nextInt(90);
        for (int i = 0; i < worlds; i++) {
            int parent = random.nextInt(i + 2) - (random.nextInt(20) == 0 ? 1 : 0);
            same("world", "world(" + parent + ")", x.world(parent), y.world(parent));
            if (random.nextInt(3) == 0) {
                int w = random.nextInt(i + 2);
                int v = random.nextInt(6) - 1;
                same("force", "force(" + w + ", " + v + ")", x.force(w, v), y.force(w, v));
            }
        }
        worlds();
        for (int i = 0; i < 40; i++) holds(random.nextInt(y.count(3) + 2) - 1, read(text(random.nextInt(7))));
        same("clear", "clear()", x.clear(), y.clear());
        worlds();
    }

    private void proofs(int size) {
        for (int i = 0; i < 12; i++) {
            if (random.nextInt(5) == 0) forget();
            for (int k = random.nextInt(3); k > 0; k--) given(read(text(random.nextInt(size))));
            int f = read(text(size));
            int answer = prove(f, random.nextInt(4) == 0 ? random.nextInt(40) : 2000);
            classical(f);
            int n = proof();
            if (answer == 1 && n >= 0) checkWritten(f, n);
            if (same("refute", "refute()", x.refute(), y.refute()) > 0) refuted(f);
        }
    }

    /** What is PROVED has to hold by all assignments, and its term has to be accepted. */
    private void checkWritten(int f, int bytes) {
        String s = page(bytes);
        if (s.length() > 3000) return;
        feed(s);
        int answer = check(f);
        if (answer != 1 && answer != -13) {
            wrong++;
            System.out.println("seed " + seed + ": the written proof is not accepted: " + answer + " " + s);
        }
        for (int i = 0; i < 4; i++) {
            feed(mutated(s));
            check(random.nextInt(4) == 0 ? random.nextInt(f + 2) : f);
        }
    }

    private void refuted(int f) {
        worlds();
        if (holds(0, f) != 0) {
            wrong++;
            System.out.println("seed " + seed + ": the root of a refutation holds the goal");
        }
    }

    private void manySteps(int times) {
        variables = 3 + random.nextInt(2);
        for (int i = 0; i < times; i++) {
            StringBuilder s = new StringBuilder();
            int rows = 2 + random.nextInt(6);
            for (int k = 0; k < rows; k++) {
                String a = name();
                String b = name();
                String c = name();
                s.append(k == 0 ? "" : "&").append(random.nextBoolean()
                    ? "((" + a + "->" + b + ")->" + c + ")" : "((" + a + "<->" + b + ")->" + c + "|" + name() + ")");
            }
            int f = read("(" + s + ")->" + text(3));
            prove(f, 2000);
            int n = proof();
            if (n > 0) checkWritten(f, n);
            if (same("refute", "refute()", x.refute(), y.refute()) > 0) refuted(f);
        }
    }

    /** Terms with many parts, which have much that is no formula. */
    private void wideTerms() {
        variables = 4;
        for (int i = 0; i < 10; i++) given(read(text(random.nextInt(3))));
        for (int i = 0; i < 30; i++) {
            String s = pairs(8 - random.nextInt(2));
            feed("S(P(" + s + ",h" + random.nextInt(9) + "))");
            check(random.nextInt(y.count(0)));
            feed("S(P(" + s + ",T))");
            check(1);
        }
        for (int i = 0; i < 16; i++) {
            String s = pairs(2);
            feed("A(L(true,h" + random.nextInt(12) + "),S(P(" + s + ",T)))");
            check(y.formula(1, 0));
            feed("A(A(L(a,L(b,P(h10,h11))),h0),h1)");
            check(random.nextInt(y.count(0)));
        }
    }

    private String pairs(int deep) {
        if (deep == 0) return random.nextInt(9) == 0 ? "T" : random.nextInt(9) == 0 ? "L(a,h10)" : "h" + random.nextInt(10);
        return "P(" + pairs(deep - 1) + "," + pairs(deep - 1) + ")";
    }

    private static final int[] EDGES = {
        Integer.MIN_VALUE, Integer.MIN_VALUE + 1, -2001, -2, -1, 0, 1, 2, 3, 4, 5, 6, 7, 8, 9, 11, 12, 13, 19, 20, 21, 23, 24, 25, 31,
        32, 33, 59, 60, 61, 63, 64, 65, 199, 200, 201, 1998, 1999, 2000, 2001, 2999, 3000, 3001, 7999, 8000, 8001,
        Integer.MAX_VALUE - 1, Integer.MAX_VALUE
    };

    private int edge() { return random.nextInt(3) == 0 ? some() : EDGES[random.nextInt(EDGES.length)]; }

    /** Every call with arguments at and beyond the edges, where there is little and where there is much. */
    private void edges() {
        if (random.nextInt(3) == 0) full();
        if (random.nextInt(3) == 0) byHand();
        read(text(random.nextInt(6)));
        for (int i = 0; i < 60; i++) {
            int a = edge();
            int b = edge();
            int c = edge();
            same("feed", "feed(.., " + a + ")", x.feed(0x612d3e6126616161L, a), y.feed(0x612d3e6126616161L, a));
            same("count", "count(" + a + ")", x.count(a), y.count(a));
            same("formula", "formula(" + a + ", " + b + ")", x.formula(a, b), y.formula(a, b));
            make(random.nextBoolean() ? 3 + random.nextInt(3) : a, b, c);
            write(a);
            same("octet", "octet(" + b + ")", x.octet(b), y.octet(b));
            given(a);
            prove(a, b);
            same("told", "told(" + a + ")", x.told(a), y.told(a));
            proof();
            check(a);
            classical(b);
            same("refute", "refute()", x.refute(), y.refute());
            same("world", "world(" + a + ")", x.world(a), y.world(a));
            same("force", "force(" + a + ", " + b + ")", x.force(a, b), y.force(a, b));
            same("about", "about(" + a + ", " + b + ", " + c + ")", x.about(a, b, c), y.about(a, b, c));
            holds(a, b);
            if (random.nextInt(20) == 0) forget();
            if (random.nextInt(20) == 0) same("clear", "clear()", x.clear(), y.clear());
            same("read", "read()", x.read(), y.read());
            same("place", "place()", x.place(), y.place());
        }
        counts();
        worlds();
    }

    private int some() { return random.nextInt(y.count(0) + 2) - 1; }

    private void mixed() {
        for (int i = 0; i < 60; i++) {
            switch (random.nextInt(16)) {
                case 0: case 1: case 2: read(text(random.nextInt(8))); break;
                case 3: make(random.nextInt(6) + 1, some(), some()); break;
                case 4: write(some()); break;
                case 5: given(some()); break;
                case 6: if (random.nextInt(3) == 0) forget(); break;
                case 7: case 8: prove(some(), random.nextInt(30) == 0 ? 2001 - random.nextInt(2) * 2002 : random.nextInt(200)); break;
                case 9: page(proof()); break;
                case 10: same("refute", "refute()", x.refute(), y.refute()); break;
                case 11: holds(random.nextInt(y.count(3) + 2) - 1, some()); break;
                case 12: classical(some()); break;
                case 13: {
                    int w = random.nextInt(y.count(3) + 2) - 1;
                    same("world", "world(" + w + ")", x.world(w), y.world(w));
                    int v = random.nextInt(5) - 1;
                    same("force", "force(" + w + ", " + v + ")", x.force(w, v), y.force(w, v));
                    break;
                }
                case 14: {
                    int f = some();
                    int what = random.nextInt(5) - 1;
                    same("formula", "formula(" + f + ", " + what + ")", x.formula(f, what), y.formula(f, what));
                    break;
                }
                default: {
                    int n = random.nextInt(12) - 1;
                    same("feed", "feed(.., " + n + ")", x.feed(0x61266226612662L, n), y.feed(0x61266226612662L, n));
                    check(some());
                    break;
                }
            }
        }
        counts();
    }
}
