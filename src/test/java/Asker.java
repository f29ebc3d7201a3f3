/**
 * A WorldProver that counts its calls: an answer behind the 512th is free by the document, so a test
 * that asks for more is itself at fault.
 */
final class Asker {
    static final int MOST_CALLS = 512;
    private static int overdone = 0;
    private final WorldProver x = new WorldProver();
    private int calls = 0;

    /** How many objects were asked more than 512 times. */
    static int overdone() { return overdone; }

    private WorldProver asked() {
        calls++;
        if (calls == MOST_CALLS + 1) {
            overdone++;
            System.out.println("a test asks an object more than " + MOST_CALLS + " times:");
            StackTraceElement[] path = Thread.currentThread().getStackTrace();
            for (int i = 3; i < path.length; i++) System.out.println("    " + path[i]);
        }
        return x;
    }

    int callsLeft() { return MOST_CALLS - calls; }

    int feed(long v, int n) { return asked().feed(v, n); }
    int read() { return asked().read(); }
    int place() { return asked().place(); }
    int count(int what) { return asked().count(what); }
    int formula(int f, int what) { return asked().formula(f, what); }
    int make(int kind, int a, int b) { return asked().make(kind, a, b); }
    int write(int f) { return asked().write(f); }
    int octet(int i) { return asked().octet(i); }
    int given(int f) { return asked().given(f); }
    int forget() { return asked().forget(); }
    int prove(int f, int steps) { return asked().prove(f, steps); }
    int told(int what) { return asked().told(what); }
    int proof() { return asked().proof(); }
    int check(int f) { return asked().check(f); }
    int classical(int f) { return asked().classical(f); }
    int refute() { return asked().refute(); }
    int clear() { return asked().clear(); }
    int world(int parent) { return asked().world(parent); }
    int force(int world, int variable) { return asked().force(world, variable); }
    int about(int world, int what, int v) { return asked().about(world, what, v); }
    int holds(int world, int f) { return asked().holds(world, f); }

    // ---- several calls at once

    /** The text is this one: how many bytes it has. */
    int text(String s) {
        int n = feed(0L, 0);
        for (int i = 0; i < s.length(); i += 8) n = append(s.substring(i, Math.min(i + 8, s.length())));
        return n;
    }

    /** At most 8 signs come behind the text. */
    int append(String s) {
        long v = 0L;
        for (int i = 0; i < s.length(); i++) v = v << 8 | s.charAt(i);
        return feed(v, s.length());
    }

    int read(String s) {
        text(s);
        return read();
    }

    int check(String s, int f) {
        text(s);
        return check(f);
    }

    /**
     * Makes so many formulas in some 80 calls, of the variable a alone, none of them a -> or a | of
     * something small: a search from (a & .. & a) -> d makes two for each &. Nothing may be given
     * before. How many there are.
     */
    int fill(int formulas) {
        int row = read("a" + "&a".repeat(199));
        int many = count(0);
        for (int d = row; many < formulas && callsLeft() > 0; d--) {
            int signs = Math.min(200, (formulas - many + 1) / 2);
            if (signs < 9) {
                make(4, row, d);
            } else {
                given(make(5, row - 200 + signs, d));
                prove(0, 2000);
                forget();
            }
            many = count(0);
        }
        return many;
    }

    /** A formula that is written with so many bytes: a name of 1 to 4 signs, and what has 4 times a power of 2. */
    int ofLength(int bytes) {
        int rest = (bytes - 1) / 4;
        int f = read("abcd".substring(0, bytes - 4 * rest));
        int doubled = read("a");
        for (int bit = 1; bit <= rest; bit *= 2) {
            if ((rest & bit) != 0) f = make(3, doubled, f);
            doubled = make(3, doubled, doubled);
        }
        return f;
    }

    /** What was written latest, with as many bytes as that call answered. */
    String page(int bytes) {
        StringBuilder s = new StringBuilder();
        for (int i = 0; i < bytes; i++) s.append((char) octet(i));
        return s.toString();
    }

    /** The worlds as a text: each one's parent and the variables that are forced there. */
    String worlds() {
        int worlds = count(3);
        int variables = count(1);
        StringBuilder s = new StringBuilder();
        for (int w = 0; w < worlds; w++) {
            s.append(w == 0 ? "" : " ").append(about(w, 0, 0)).append(":");
            for (int v = 0; v < variables; v++) s.append(about(w, 1, v) == 1 ? "" + v : "");
        }
        return s.toString();
    }
}
