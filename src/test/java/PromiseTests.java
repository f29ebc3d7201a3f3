/** For each promise of the document: ordinary calls, its edges, and wrong ones, with answers worked out by hand. */
public final class PromiseTests {
    public static void main(String[] args) {
        newObject();
        feeding();
        readingNumbers();
        readingFaults();
        readingOpen();
        readingRoom();
        places();
        counts();
        formulas();
        making();
        writing();
        octets();
        giving();
        forgetting();
        proving();
        provingNested();
        provingRefused();
        provingFull();
        provingWithoutRoom();
        provingAgain();
        telling();
        proofs();
        checking();
        checkingFaults();
        checkingUnmade();
        assignments();
        refuting();
        refutingRoom();
        clearing();
        growing();
        forcing();
        asking();
        holding();
        Dues.end("promises", 1, 22);
    }

    private static void due(String call, long got, long want) { Dues.due(call, got, want); }

    private static void due(String call, String got, String want) { Dues.due(call, got, want); }

    private static int read(Asker x, String text) {
        return x.read(text);
    }

    private static int check(Asker x, String text, int f) {
        return x.check(text, f);
    }

    private static void fault(String text, int number, int place) {
        Asker x = new Asker();
        due("read of " + text, read(x, text), -10 - number);
        due("place in " + text, x.place(), place);
    }

    private static void faultOfTerm(Asker x, String text, int number, int place) {
        due("check of " + text, check(x, text, 1), -10 - number);
        due("place in " + text, x.place(), place);
    }

    private static String page(Asker x) {
        StringBuilder s = new StringBuilder();
        int c = x.octet(0);
        for (int i = 1; c >= 0; i++) {
            s.append((char) c);
            c = x.octet(i);
        }
        return s.toString();
    }

    /** Proves a text from others, told by its steps, the most in LEFT, its depth and its proof. */
    private static Asker proved(String text, String proof, int steps, int most, int deep, String... givens) {
        Asker x = new Asker();
        for (String g : givens) x.given(read(x, g));
        int f = read(x, text);
        due("prove of " + text, x.prove(f, 2000), 1);
        due("steps of " + text, x.told(0), steps);
        due("most of " + text, x.told(1), most);
        due("depth of " + text, x.told(2), deep);
        due("answer of " + text, x.told(3), 1);
        due("bytes of the proof of " + text, x.proof(), proof.length());
        due("proof of " + text, page(x), proof);
        due("check of the proof of " + text, check(x, proof, f), 1);
        return x;
    }

    private static Asker failed(String text, int steps, int most, int deep, String... givens) {
        Asker x = new Asker();
        for (String g : givens) x.given(read(x, g));
        int f = read(x, text);
        due("prove of " + text, x.prove(f, 2000), 0);
        due("steps of " + text, x.told(0), steps);
        due("most of " + text, x.told(1), most);
        due("depth of " + text, x.told(2), deep);
        due("proof of " + text, x.proof(), -3);
        return x;
    }

    private static String worlds(Asker x) { return x.worlds(); }

    private static void newObject() {
        Dues.of(1, "new object");
        Asker x = new Asker();
        due("count(0)", x.count(0), 2);
        due("count(1)", x.count(1), 0);
        due("count(2)", x.count(2), 0);
        due("count(3)", x.count(3), 1);
        due("formula(0, 0)", x.formula(0, 0), 0);
        due("formula(1, 0)", x.formula(1, 0), 1);
        due("place()", x.place(), -1);
        due("octet(0)", x.octet(0), -1);
        due("told(3)", x.told(3), -3);
        due("proof()", x.proof(), -3);
        due("refute()", x.refute(), -3);
        due("read()", x.read(), -12);
        due("place()", x.place(), 0);
        due("about(0, 0, 0)", x.about(0, 0, 0), -1);
        due("about(0, 2, 0)", x.about(0, 2, 0), 1);
    }

    private static void feeding() {
        Dues.of(2, "feeding");
        Asker x = new Asker();
        due("feed(a->b, 4)", x.feed(0x7a7a612d3e62L, 4), 4);
        due("read()", x.read(), 4);
        due("feed(.., 9)", x.feed(1, 9), -2);
        due("feed(.., -1)", x.feed(1, -1), -2);
        due("feed(|, 1)", x.feed('|', 1), 5);
        due("feed(c, 1)", x.feed('c', 1), 6);
        due("read()", x.read(), 7);
        due("feed(.., 0)", x.feed(77, 0), 0);
        due("read()", x.read(), -12);
        for (int i = 1; i <= 374; i++) due("feed(.., 8)", x.feed(0x2020202020202020L, 8), 8 * i);
        due("feed(.., 4)", x.feed(0x20202020L, 4), 2996);
        due("feed(.., 5)", x.feed(0x6120202020L, 5), -4);
        due("feed(.., 4)", x.feed(0x20202061L, 4), 3000);
        due("read()", x.read(), 2);
        due("feed(.., 1)", x.feed(0x61L, 1), -4);
        due("feed(.., 9)", x.feed(0x61L, 9), -2);
        due("feed(.., 0)", x.feed(0, 0), 0);
        due("feed of bytes above 127", x.feed(-1L, 8), 8);
        due("read()", x.read(), -11);
        due("place()", x.place(), 0);
    }

    private static void readingNumbers() {
        Dues.of(3, "reading numbers");
        Asker x = new Asker();
        due("read", read(x, "a & b | c -> d <-> e"), 12);
        int[][] due = {{2, 0, 0}, {2, 1, 0}, {3, 2, 3}, {2, 2, 0}, {4, 4, 5}, {2, 3, 0}, {5, 6, 7}, {2, 4, 0},
            {5, 8, 9}, {5, 9, 8}, {3, 10, 11}};
        for (int i = 0; i < due.length; i++) {
            for (int k = 0; k < 3; k++) due("formula(" + (i + 2) + ", " + k + ")", x.formula(i + 2, k), due[i][k]);
        }
        due("read again", read(x, "((a&b)|c->d)<->e"), 12);
        due("count(0)", x.count(0), 13);
        x = new Asker();
        due("read", read(x, "a->b->a"), 5);
        due("formula(5, 2)", x.formula(5, 2), 4);
        due("read", read(x, "a|b|a"), 7);
        due("formula(7, 1)", x.formula(7, 1), 6);
        due("read", read(x, "a&b&a"), 9);
        due("formula(9, 1)", x.formula(9, 1), 8);
        due("read", read(x, "~~a&b"), 12);
        due("formula(12, 1)", x.formula(12, 1), 11);
        due("formula(11, 0)", x.formula(11, 0), 5);
        due("formula(11, 1)", x.formula(11, 1), 10);
        due("formula(11, 2)", x.formula(11, 2), 0);
        due("formula(10, 1)", x.formula(10, 1), 2);
        due("read", read(x, "true"), 1);
        due("read", read(x, "\t(\nfalse\r ) "), 0);
        due("read", read(x, "truex"), 13);
        due("read", read(x, "abcdef"), 14);
        due("read", read(x, "a<->a"), 16);
        due("formula(16, 1)", x.formula(16, 1), 15);
        due("formula(16, 2)", x.formula(16, 2), 15);
        due("read", read(x, "a123"), 17);
        due("read", read(x, "b&a"), 18);
    }

    private static void readingFaults() {
        Dues.of(3, "reading faults");
        fault("", 2, 0);
        fault("   ", 2, 3);
        fault("a b", 2, 2);
        fault("a true", 2, 2);
        fault("a?", 1, 1);
        fault("abcdefg", 1, 0);
        fault("a & falsely", 1, 4);
        fault("a-b", 1, 1);
        fault("a - > b", 1, 2);
        fault("a<-b", 1, 1);
        fault("a< ->b", 1, 1);
        fault("a <-> b <-> c", 2, 8);
        fault("a & -> ?", 2, 4);
        fault("()", 2, 1);
        fault("(a", 2, 2);
        fault("(a ?", 1, 3);
        fault("a&", 2, 2);
        fault("a)", 2, 1);
        fault("~", 2, 1);
        fault("A", 1, 0);
        fault("T", 1, 0);
        fault("a,b", 1, 1);
        fault("1a", 1, 0);
        fault("\0", 1, 0);
        fault("a\f", 1, 1);
        made("a & b ?", 5);
        made("a | b ?", 4);
        made("a -> b ?", 4);
        made("~a ?", 4);
        made("a & b c", 5);
        made("(a | b c", 5);
        made("a <-> b)", 7);
    }

    /** What was made before a fault stays. */
    private static void made(String text, int formulas) {
        Asker x = new Asker();
        read(x, text);
        due("count(0) after " + text, x.count(0), formulas);
    }

    private static void readingOpen() {
        Dues.of(3, "reading open");
        String[] openers = {"~", "(", "a->", "true<->("};
        int[] most = {40, 40, 40, 20};
        int[] places = {40, 40, 121, 164};
        for (int i = 0; i < openers.length; i++) {
            String close = openers[i].endsWith("(") ? ")" : "";
            Asker x = new Asker();
            due("open is enough", read(x, openers[i].repeat(most[i]) + "a" + close.repeat(most[i])) > 1 ? 1 : 0, 1);
            fault(openers[i].repeat(most[i] + 1) + "a", 3, places[i]);
        }
        fault("~".repeat(40) + ")", 2, 40);
        fault("~".repeat(40) + "?", 1, 40);
        fault("(".repeat(40) + "a->b", 3, 41);
        fault("(".repeat(40) + "a<->b", 3, 41);
        fault("(".repeat(40) + "a ~", 2, 42);
        fault("~".repeat(41), 3, 40);
        Asker x = new Asker();
        due("closed is not open", read(x, "(a)&~a&".repeat(200) + "a") > 0 ? 1 : 0, 1);
        due("an arrow closes", read(x, "(a->a)&".repeat(100) + "a") > 0 ? 1 : 0, 1);
        due("<-> closes", read(x, "(a<->a)&".repeat(100) + "a") > 0 ? 1 : 0, 1);
        due("arrows close at <->", read(x, "a->".repeat(40) + "a<->" + "a->".repeat(39) + "a") > 0 ? 1 : 0, 1);
        due("<-> stays open", read(x, "a<->" + "a->".repeat(40) + "a"), -13);
        due("place()", x.place(), 4 + 3 * 39 + 1);
    }

    private static void readingRoom() {
        Dues.of(3, "reading room");
        Asker x = new Asker();
        StringBuilder s = new StringBuilder("v0");
        for (int i = 1; i < 24; i++) s.append("&v").append(i);
        due("24 variables", read(x, s.toString()), 48);
        due("the 25th", read(x, "v3 & w"), -14);
        due("place()", x.place(), 5);
        due("count(1)", x.count(1), 24);
        due("an old one", read(x, "v23"), 47);
        x = full(2000);
        due("an old one", read(x, "a&a"), 3);
        due("a name", read(x, " b"), -15);
        due("place()", x.place(), 1);
        due("count(1)", x.count(1), 1);
        room(x, "a|true & a", 7);
        room(x, "a|true", 1);
        room(x, "~ a", 0);
        room(x, "a->a", 1);
        room(x, "a <-> a", 2);
        room(x, "~ a ?", 0);
        due("a fault ahead of the room", read(x, "a -> a ?"), -11);
        due("count(0)", x.count(0), 2000);
        x = full(1999);
        room(x, "a<->true", 1);
        due("count(0)", x.count(0), 2000);
        due("formula(1999, 0)", x.formula(1999, 0), 5);
        due("formula(1999, 1)", x.formula(1999, 1), 2);
        due("formula(1999, 2)", x.formula(1999, 2), 1);
    }

    private static void room(Asker x, String text, int place) {
        due("read of " + text, read(x, text), -15);
        due("place in " + text, x.place(), place);
    }

    /** With so many formulas; the variable a is 2, a&a is 3. */
    private static Asker full(int formulas) {
        Asker x = new Asker();
        fill(x, formulas);
        return x;
    }

    private static void fill(Asker x, int formulas) { due("count(0)", x.fill(formulas), formulas); }

    private static void places() {
        Dues.of(4, "places");
        Asker x = new Asker();
        due("place()", x.place(), -1);
        read(x, "a ?");
        due("place()", x.place(), 2);
        due("check(9)", x.check(9), -1);
        due("place()", x.place(), 2);
        read(x, "a");
        due("place()", x.place(), -1);
        check(x, "F(?", 1);
        due("place()", x.place(), 2);
        check(x, "T", 0);
        due("place()", x.place(), -1);
    }

    private static void counts() {
        Dues.of(5, "counts");
        Asker x = new Asker();
        read(x, "a|b");
        x.given(2);
        x.given(2);
        x.world(0);
        due("count(0)", x.count(0), 5);
        due("count(1)", x.count(1), 2);
        due("count(2)", x.count(2), 2);
        due("count(3)", x.count(3), 2);
        due("count(4)", x.count(4), -2);
        due("count(-1)", x.count(-1), -2);
    }

    private static void formulas() {
        Dues.of(6, "formulas");
        Asker x = new Asker();
        read(x, "a|b");
        int[][] due = {{0, 0, 0}, {1, 0, 0}, {2, 0, 0}, {2, 1, 0}, {4, 2, 3}};
        for (int f = 0; f < 5; f++) {
            for (int k = 0; k < 3; k++) due("formula(" + f + ", " + k + ")", x.formula(f, k), due[f][k]);
        }
        due("formula(5, 0)", x.formula(5, 0), -1);
        due("formula(-1, 0)", x.formula(-1, 0), -1);
        due("formula(5, 9)", x.formula(5, 9), -1);
        due("formula(4, 3)", x.formula(4, 3), -2);
        due("formula(4, -1)", x.formula(4, -1), -2);
    }

    private static void making() {
        Dues.of(7, "making");
        Asker x = new Asker();
        read(x, "a|b");
        due("make(4, 2, 3)", x.make(4, 2, 3), 4);
        due("make(3, 2, 3)", x.make(3, 2, 3), 5);
        due("make(3, 3, 2)", x.make(3, 3, 2), 6);
        due("make(5, 6, 0)", x.make(5, 6, 0), 7);
        due("make(3, 8, 0)", x.make(3, 8, 0), -1);
        due("make(3, 0, 8)", x.make(3, 0, 8), -1);
        due("make(3, -1, 0)", x.make(3, -1, 0), -1);
        due("make(2, 0, 8)", x.make(2, 0, 8), -1);
        due("make(2, 0, 0)", x.make(2, 0, 0), -2);
        due("make(6, 0, 0)", x.make(6, 0, 0), -2);
        due("count(0)", x.count(0), 8);
        x = full(1999);
        due("make", x.make(5, 2, 2), 1999);
        due("make", x.make(5, 2, 1), -4);
        due("make", x.make(5, 2, 2), 1999);
        due("make", x.make(1, 2, 1), -2);
        due("count(0)", x.count(0), 2000);
    }

    /** A formula of 8000 bytes, or of 8001. */
    private static int longOne(Asker x, boolean tooLong) {
        int a = read(x, "a");
        int f = x.make(3, a, tooLong ? 0 : 1);
        int[] doubled = new int[11];
        doubled[0] = a;
        for (int i = 1; i < 11; i++) doubled[i] = x.make(3, doubled[i - 1], doubled[i - 1]);
        int[] with = {1, 2, 3, 6, 7, 8, 9, 10};
        for (int i : with) f = x.make(3, doubled[i], f);
        return f;
    }

    private static void writing() {
        Dues.of(8, "writing");
        Asker x = new Asker();
        int f = read(x, "~a | true & abc123 -> false <-> a");
        String written = "(((((a->false)|(true&abc123))->false)->a)&(a->(((a->false)|(true&abc123))->false)))";
        due("write", x.write(f), written.length());
        due("page", page(x), written);
        due("write(0)", x.write(0), 5);
        due("page", page(x), "false");
        due("write(1)", x.write(1), 4);
        due("page", page(x), "true");
        due("write(99)", x.write(99), -1);
        due("write(-1)", x.write(-1), -1);
        due("page", page(x), "true");
        due("write of 8000", x.write(longOne(x, false)), 8000);
        due("octet(7999)", x.octet(7999), ')');
        due("octet(8000)", x.octet(8000), -1);
        due("write(1)", x.write(1), 4);
        due("write of 8001", x.write(longOne(x, true)), -4);
        due("page", page(x), "true");
        x = new Asker();
        f = 1;
        for (int i = 0; i < 400; i++) f = x.make(5, f, f);
        due("write of more than can be counted", x.write(f), -4);
        x = new Asker();
        f = x.read("a" + "|a".repeat(1499));
        due("write of a deep one", x.write(f), 1 + 4 * 1499);
    }

    private static void octets() {
        Dues.of(9, "octets");
        Asker x = new Asker();
        read(x, "a->b");
        due("octet(0)", x.octet(0), -1);
        due("write(4)", x.write(4), 6);
        due("octet(-1)", x.octet(-1), -1);
        due("octet(0)", x.octet(0), '(');
        due("octet(3)", x.octet(3), '>');
        due("octet(5)", x.octet(5), ')');
        due("octet(6)", x.octet(6), -1);
        due("octet(2147483647)", x.octet(2147483647), -1);
        x.prove(1, 5);
        x.proof();
        due("page", page(x), "T");
    }

    private static void giving() {
        Dues.of(10, "giving");
        Asker x = new Asker();
        due("given(2)", x.given(2), -1);
        due("given(-1)", x.given(-1), -1);
        for (int i = 1; i <= 20; i++) due("given(1)", x.given(1), i);
        due("given(0)", x.given(0), -4);
        due("given(2)", x.given(2), -1);
        due("count(2)", x.count(2), 20);
        due("prove(0, 9)", x.prove(0, 9), 0);
        proved("b->b", "L(b,h3)", 2, 3, 2, "a", "c", "a");
        proved("c", "h2", 1, 2, 1, "a", "a", "c");
    }

    private static void forgetting() {
        Dues.of(11, "forgetting");
        Asker x = new Asker();
        due("forget()", x.forget(), 0);
        int a = read(x, "a");
        x.given(a);
        x.given(a);
        due("prove", x.prove(a, 9), 1);
        due("forget()", x.forget(), 2);
        due("count(2)", x.count(2), 0);
        due("prove", x.prove(a, 9), 0);
        due("given", x.given(a), 1);
        due("check", check(x, "h0", a), 1);
        due("check", check(x, "h1", a), -16);
    }

    private static void proving() {
        Dues.of(12, "proving");
        proved("a->a", "L(a,h0)", 2, 1, 2);
        proved("true", "T", 1, 0, 1);
        proved("true", "h0", 1, 1, 1, "true");
        proved("false", "h0", 1, 1, 1, "false");
        proved("false->a", "L(false,X(h0))", 2, 1, 2);
        proved("b", "A(h1,h0)", 2, 2, 2, "a", "a->b");
        proved("b", "A(h0,T)", 2, 1, 2, "true->b");
        proved("a&b->b&a", "L((a&b),P(S(h0),F(h0)))", 6, 2, 4);
        proved("a|b->b|a", "L((a|b),C(h0,J(h1),I(h1)))", 7, 1, 4);
        proved("a->a->a", "L(a,L(a,h0))", 3, 1, 3);
        proved("a|b|true", "J(T)", 5, 0, 3);
        proved("a->c", "L(a,A(L(a,A(h0,I(h2))),h1))", 4, 3, 4, "a|b->c");
        proved("a->b->c", "L(a,L(b,A(A(L(a,L(b,A(h0,P(h3,h4)))),h1),h2)))", 6, 3, 6, "a&b->c");
        failed("b", 2, 1, 2, "false->a");
        failed("b", 2, 1, 2, "true");
        failed("b", 1, 1, 1, "a->b");
        failed("a&b", 2, 0, 2);
        failed("a&b", 3, 1, 2, "a");
        failed("a|b", 3, 0, 2);
        failed("((a->b)->a)->a", 3, 2, 3);
        Asker x = new Asker();
        x.given(read(x, "a&b->c"));
        due("count(0)", x.count(0), 7);
        due("prove(5, 99)", x.prove(5, 99), 0);
        due("count(0)", x.count(0), 9);
        due("formula(7, 1)", x.formula(7, 1), 3);
        due("formula(7, 2)", x.formula(7, 2), 5);
        due("formula(8, 1)", x.formula(8, 1), 2);
        due("formula(8, 2)", x.formula(8, 2), 7);
    }

    private static void provingNested() {
        Dues.of(12, "proving nested");
        proved("b->c", "L(b,A(h0,L(a,h1)))", 4, 3, 3, "(a->b)->c");
        proved("~~(a|~a)",
            "L(((a|(a->false))->false),A(L((a->false),A(h0,J(h1))),L(a,A(L(a,A(h0,I(h2))),h1))))", 6, 3, 5);
        // The first premise of the first one fails, so the second one is tried.
        proved("d", "A(h1,L(e,h2))", 6, 5, 3, "(a->b)->c", "(e->f)->d", "f");
        // The first premise is proved, so the second one decides.
        failed("x", 3, 4, 2, "(a->b)->c", "b", "q->x");
        proved("c", "A(h0,L(a,A(h1,h2)))", 4, 3, 3, "(a->b)->c", "a->b");
    }

    private static void provingRefused() {
        Dues.of(12, "proving refused");
        Asker x = new Asker();
        int f = read(x, "a->a");
        due("prove(-1, 5)", x.prove(-1, 5), -1);
        due("prove(4, 5)", x.prove(4, 5), -1);
        due("prove(4, -5)", x.prove(4, -5), -1);
        due("prove(3, -1)", x.prove(f, -1), -2);
        due("prove(3, 2001)", x.prove(f, 2001), -2);
        due("told(3)", x.told(3), -3);
        due("prove(3, 0)", x.prove(f, 0), -6);
        due("prove(3, 1)", x.prove(f, 1), -6);
        due("prove(3, 2)", x.prove(f, 2), 1);
        due("prove(3, 2000)", x.prove(f, 2000), 1);
    }

    /** A row of so many that LEFT can do nothing with, but hold them. */
    private static String row(int many) {
        StringBuilder s = new StringBuilder();
        for (int i = 0; i < many; i++) {
            s.append(i == 0 ? "" : "&");
            s.append(i < 22 ? "v" + i : i < 44 ? "(y->v" + (i - 22) + ")" : "(z->v" + (i - 44) + ")");
        }
        return s.toString();
    }

    private static void provingFull() {
        Dues.of(12, "proving full");
        failed("z", 60, 60, 60, row(60));
        Asker x = new Asker();
        x.given(read(x, row(61)));
        due("prove", x.prove(read(x, "z"), 2000), -7);
        due("told(0)", x.told(0), 60);
        due("told(1)", x.told(1), 60);
        due("told(2)", x.told(2), 60);
        due("told(3)", x.told(3), -7);
        x = new Asker();
        int f = read(x, "a");
        for (int i = 0; i < 198; i++) f = x.make(5, 1, f);
        due("prove", x.prove(f, 2000), 0);
        due("told(0)", x.told(0), 200);
        due("told(2)", x.told(2), 200);
        due("prove", x.prove(f, 199), -6);
        due("told(2)", x.told(2), 199);
        f = x.make(5, 1, f);
        due("prove", x.prove(f, 2000), -7);
        due("told(0)", x.told(0), 200);
        due("told(2)", x.told(2), 200);
        due("prove, full ahead of spent", x.prove(f, 200), -7);
        provingDeepest("p&q->r", 199, 2, 2);
        provingDeepest("p|q->r", 199, 3, 2);
        provingDeepest("p&q", 199, 3, 0);
        provingDeepest("(p->q)->r", 198, 2, 1);
    }

    /** What comes at the deepest level comes, and is made, ahead of the level that there is not. */
    private static void provingDeepest(String given, int arrows, int most, int made) {
        Asker x = new Asker();
        x.given(read(x, given));
        int f = read(x, "a");
        for (int i = 0; i < arrows; i++) f = x.make(5, 1, f);
        int before = x.count(0);
        due("prove", x.prove(f, 2000), -7);
        due("told(0)", x.told(0), 200);
        due("told(1)", x.told(1), most);
        due("told(2)", x.told(2), 200);
        due("count(0)", x.count(0), before + made);
    }

    private static void provingWithoutRoom() {
        Dues.of(12, "proving without room");
        // b -> c, then a -> (b -> c)
        withoutRoom("a&b->c", 2000, "");
        withoutRoom("a&b->c", 1999, "b->c");
        withoutRoom("a&b->c", 1998, "b->c a->(b->c)");
        // a -> c, then b -> c
        withoutRoom("a|b->c", 2000, "");
        withoutRoom("a|b->c", 1999, "a->c");
        withoutRoom("a|b->c", 1998, "a->c b->c");
        // b -> c
        withoutRoom("(a->b)->c", 2000, "");
        withoutRoom("(a->b)->c", 1999, "b->c");
    }

    /** Searches for false where there are so many formulas; those of a text are made, and no others. */
    private static void withoutRoom(String given, int formulas, String made) {
        Asker x = new Asker();
        int f = read(x, given);
        fill(x, formulas);
        x.given(f);
        String[] names = made.isEmpty() ? new String[0] : made.split(" ");
        boolean enough = given.startsWith("(") ? names.length == 1 : names.length == 2;
        due("prove from " + given, x.prove(0, 2000), enough ? 0 : -7);
        due("told(0)", x.told(0) > 1 ? 1 : 0, enough ? 1 : 0);
        due("count(0)", x.count(0), formulas + names.length);
        for (int i = 0; i < names.length; i++) due("read of " + names[i], read(x, names[i]), formulas + i);
    }

    /** What a search leaves behind must not take the room of later ones. */
    private static void provingAgain() {
        Dues.of(12, "proving again");
        Asker x = new Asker();
        StringBuilder s = new StringBuilder("((a|b->c)->d)");
        for (char c = 'e'; c < 'm'; c++) s.append("&((").append(c).append("->").append((char) (c + 1)).append(")->a|").append(c).append(")");
        int hard = read(x, "(" + s + ")->z");
        int f = read(x, "a|b->b|a");
        for (int i = 0; i < 40; i++) {
            due("prove", x.prove(hard, 2000), -6);
            due("told(0)", x.told(0), 2000);
        }
        due("prove", x.prove(f, 2000), 1);
        due("proof()", x.proof(), 26);
        due("page", page(x), "L((a|b),C(h0,J(h1),I(h1)))");
        int g = read(x, "(b|c)|a");
        for (int i = 0; i < 300; i++) x.prove(g, 2000);
        due("refute()", x.refute(), 5);
        due("about(3, 0, 0)", x.about(3, 0, 0), 1);
    }

    private static void telling() {
        Dues.of(13, "telling");
        Asker x = new Asker();
        due("told(0)", x.told(0), 0);
        due("told(1)", x.told(1), 0);
        due("told(2)", x.told(2), 0);
        due("told(3)", x.told(3), -3);
        due("told(4)", x.told(4), -2);
        due("told(-1)", x.told(-1), -2);
        int f = read(x, "a|b->b|a");
        x.prove(f, 2000);
        x.prove(99, 2000);
        x.prove(f, 2001);
        due("told(0)", x.told(0), 7);
        due("told(1)", x.told(1), 1);
        due("told(2)", x.told(2), 4);
        due("told(3)", x.told(3), 1);
        due("prove", x.prove(f, 3), -6);
        due("told(0)", x.told(0), 3);
        due("told(2)", x.told(2), 3);
        due("told(3)", x.told(3), -6);
        x.given(2);
        x.given(f);
        x.given(2);
        due("prove", x.prove(0, 0), -6);
        due("told(0)", x.told(0), 0);
        due("told(1)", x.told(1), 2);
        due("told(2)", x.told(2), 0);
    }

    private static void proofs() {
        Dues.of(14, "proofs");
        Asker x = new Asker();
        due("proof()", x.proof(), -3);
        int f = read(x, "a->a");
        x.given(2);
        x.prove(3, 9);
        x.forget();
        read(x, "b->c");
        due("prove refused", x.prove(77, 9), -1);
        due("proof()", x.proof(), 7);
        due("page", page(x), "L(a,h0)");
        x.prove(2, 9);
        due("proof()", x.proof(), -3);
        due("page", page(x), "L(a,h0)");
        x.prove(f, 1);
        due("proof()", x.proof(), -3);
        int big = longOne(x, false);
        due("write(1)", x.write(1), 4);
        due("prove", x.prove(x.make(5, big, big), 9), 1);
        due("proof()", x.proof(), -4);
        due("page", page(x), "true");
        due("told(3)", x.told(3), 1);
        // 10 given and more: numbers of two signs.
        x = new Asker();
        for (int i = 0; i < 11; i++) x.given(1);
        x.prove(read(x, "a->b->a"), 9);
        x.proof();
        due("page", page(x), "L(a,L(b,h11))");
        x = new Asker();
        int deep = read(x, "a->b->a&b");
        for (int i = 0; i < 120; i++) deep = x.make(5, 1, deep);
        due("prove", x.prove(deep, 2000), 1);
        due("proof()", x.proof(), 7 * 120 + 22 + 120);
        for (int i = 0; i < 22; i++) due("octet", x.octet(840 + i), "L(a,L(b,P(h120,h121)))".charAt(i));
    }

    private static void checking() {
        Dues.of(15, "checking");
        Asker x = new Asker();
        int f = read(x, "a->a");
        due("check", check(x, "L(a,h0)", f), 1);
        due("check", check(x, " L (\ta ,\nh0 )\r", f), 1);
        due("check", check(x, "L((a),h0)", f), 1);
        due("check", check(x, "L(b,h0)", f), 0);
        due("check", check(x, "L(a,T)", f), 0);
        due("check", check(x, "T", 1), 1);
        due("check", check(x, "T", 0), 0);
        due("check(-1)", x.check(-1), -1);
        due("check(2000)", x.check(2000), -1);
        x = new Asker();
        x.given(read(x, "a|b"));
        x.given(read(x, "(a->c)&(b->c)"));
        x.given(0);
        int c = read(x, "c");
        due("check C", check(x, "C(h0,A(F(h1),h3),A(S(h1),h3))", c), 1);
        due("check C", check(x, "C(h0,A(S(h1),h3),A(S(h1),h3))", c), 0);
        due("check C", check(x, "C(h1,A(F(h1),h3),A(S(h1),h3))", c), 0);
        due("check C", check(x, "C(h0,A(F(h1),h3),h3)", c), 0);
        due("check X", check(x, "X(h2)", c), 1);
        due("check X", check(x, "X(h0)", c), 0);
        due("check I", check(x, "C(h0,J(h3),I(h3))", read(x, "b|a")), 1);
        due("check I", check(x, "C(h0,I(h3),J(h3))", read(x, "b|a")), 0);
        due("check P", check(x, "P(h0,T)", read(x, "(a|b)&true")), 1);
        due("check P", check(x, "P(T,h0)", read(x, "(a|b)&true")), 0);
        due("check h", check(x, "h0", read(x, "a|b")), 1);
        due("check h", check(x, "h1", read(x, "a|b")), 0);
        due("check 40 deep", check(x, "L(a,".repeat(40) + "h42" + ")".repeat(40), read(x, "a->".repeat(40) + "a")), 1);
        due("check 40 deep", check(x, "F(P(".repeat(20) + "T" + ",T))".repeat(20), 1), 1);
    }

    private static void checkingFaults() {
        Dues.of(15, "checking faults");
        Asker x = new Asker();
        faultOfTerm(x, "", 2, 0);
        faultOfTerm(x, "h0", 6, 0);
        faultOfTerm(x, "L(a,h1)", 6, 4);
        faultOfTerm(x, "P(L(a,h0),h0)", 6, 10);
        faultOfTerm(x, "C(h0,h0,h0)", 6, 2);
        faultOfTerm(x, "C(T,h0,h1)", 6, 7);
        faultOfTerm(x, "h00", 2, 0);
        faultOfTerm(x, "h01", 2, 0);
        faultOfTerm(x, "h", 2, 0);
        faultOfTerm(x, "ha", 2, 0);
        faultOfTerm(x, "g0", 2, 0);
        faultOfTerm(x, "h99999", 6, 0);
        faultOfTerm(x, "h100000", 1, 0);
        faultOfTerm(x, "true", 2, 0);
        faultOfTerm(x, "B", 1, 0);
        faultOfTerm(x, "(T)", 2, 0);
        faultOfTerm(x, "T T", 2, 2);
        faultOfTerm(x, "T?", 1, 1);
        faultOfTerm(x, "L", 2, 1);
        faultOfTerm(x, "L(A,T)", 2, 2);
        faultOfTerm(x, "L(a)", 2, 3);
        faultOfTerm(x, "L(a&,T)", 2, 4);
        faultOfTerm(x, "L(a b,T)", 2, 4);
        faultOfTerm(x, "F(T,T)", 2, 3);
        faultOfTerm(x, "P(T)", 2, 3);
        faultOfTerm(x, "C(T,T)", 2, 5);
        faultOfTerm(x, "F(T", 2, 3);
        faultOfTerm(x, "F".repeat(2), 2, 1);
        faultOfTerm(x, "F(".repeat(41) + "T", 3, 80);
        faultOfTerm(x, "F(".repeat(40) + "h0", 6, 80);
        faultOfTerm(x, "F(".repeat(39) + "L(~a,T", 3, 80);
        faultOfTerm(x, "F(".repeat(39) + "L((a),T", 3, 80);
        faultOfTerm(x, "F(".repeat(39) + "L(a->a,T", 3, 81);
        due("40 open", check(x, "F(".repeat(40) + "T" + ")".repeat(40), 1), 0);
        due("closed letters", check(x, "P(F(T),".repeat(39) + "T" + ")".repeat(39), 1), 0);
        x = new Asker();
        StringBuilder s = new StringBuilder("L(v0");
        for (int i = 1; i < 24; i++) s.append("&v").append(i);
        due("24 variables", check(x, s + ",T)", 1), 0);
        faultOfTerm(x, "L(w,T)", 4, 2);
        x = full(2000);
        faultOfTerm(x, "L(a|true,T)", 5, 3);
        faultOfTerm(x, "L(b,T)", 5, 2);
        due("made before", check(x, "L(a&a,T)", 1), 0);
    }

    private static void checkingUnmade() {
        Dues.of(15, "checking unmade");
        Asker x = new Asker();
        due("check", check(x, "F(P(T,P(L(a,h0),L(b&a,F(h0)))))", 1), 1);
        due("count(0)", x.count(0), 5);
        int f = read(x, "a->a");
        due("count(0)", x.count(0), 6);
        due("check", check(x, "F(S(P(T,P(L(a,h0),L(b&a,F(h0))))))", f), 1);
        due("check", check(x, "S(S(P(T,P(L(a,h0),L(b&a,F(h0))))))", f), 0);
        due("check", check(x, "A(L(a,L(b,h0)),h0)", f), -16);
        x.given(2);
        due("check", check(x, "A(A(L(a,L(b->a,h1)),h0),L(b,h0))", 2), 1);
        due("check", check(x, "A(A(L(a,L(b->a,h1)),h0),L(a,h0))", 2), 0);
        due("check", check(x, "F(A(L(a,P(h1,L(b,h1))),h0))", 2), 1);
        due("others have none", check(x, "F(C(h0,h1,h1))", 1), 0);
        due("others have none", check(x, "A(L(true|false,T),I(T))", 1), 1);
        due("others have none", check(x, "F(X(h0))", 1), 0);
        due("others have none", check(x, "F(P(T,I(T)))", 1), 0);
    }

    private static String joined(String sign, int variables) {
        StringBuilder s = new StringBuilder("v0");
        for (int i = 1; i < variables; i++) s.append(sign).append("v").append(i);
        return s.toString();
    }

    private static void assignments() {
        Dues.of(16, "assignments");
        Asker x = new Asker();
        due("classical(0)", x.classical(0), 0);
        due("classical(1)", x.classical(1), 1);
        due("classical(2)", x.classical(2), -1);
        due("classical(-1)", x.classical(-1), -1);
        due("peirce", x.classical(read(x, "((a->b)->a)->a")), 1);
        due("excluded middle", x.classical(read(x, "a|~a")), 1);
        due("a variable", x.classical(read(x, "a")), 0);
        due("b->a", x.classical(read(x, "b->a")), 0);
        for (int n = 1; n <= 12; n++) {
            x = new Asker();
            due("all of " + n, x.classical(read(x, joined("&", n) + " -> v" + (n - 1))), 1);
            due("only 0 .. 0 fails", x.classical(read(x, joined("|", n))), 0);
            due("only 1 .. 1 fails", x.classical(read(x, "~(" + joined("&", n) + ")")), 0);
            due("none fails", x.classical(read(x, "~(" + joined("&", n) + ")|" + joined("&", n))), 1);
        }
        x = new Asker();
        due("13", x.classical(read(x, joined("&", 13) + "-> v0")), -4);
        due("12 of 13", x.classical(read(x, joined("&", 12) + "-> v0")), 1);
        due("12 of 24", x.classical(read(x, joined("&", 24) + "-> v0")), -4);
        due("the latest 1 of 24", x.classical(read(x, "v23|~v23")), 1);
        due("the latest 12 of 24", x.classical(read(x, "~(" + joined("&", 24).substring(joined("&", 12).length() + 1) + ")")), 0);
        x = new Asker();
        read(x, "a->a");
        fill(x, 1999);
        due("make", x.make(3, 3, 3), 1999);
        due("the last formula", x.classical(1999), 1);
        due("the last formula", x.holds(0, 1999), 1);
        due("the last but one", x.classical(1998), 0);
    }

    private static void refuting() {
        Dues.of(17, "refuting");
        Asker x = failed("(b|c)|a", 5, 0, 3);
        due("refute()", x.refute(), 5);
        due("worlds", worlds(x), "-1: 0: 1: 1: 0:");
        x = failed("a|(b|c)", 5, 0, 3);
        due("refute()", x.refute(), 5);
        due("worlds", worlds(x), "-1: 0: 0: 2: 2:");
        x = failed("(a->b)|(b->a)", 5, 1, 3);
        due("refute()", x.refute(), 3);
        due("worlds", worlds(x), "-1: 0:0 0:1");
        x = failed("d", 2, 2, 2, "(a->b)->c");
        due("refute()", x.refute(), 2);
        due("worlds", worlds(x), "-1: 0:0");
        due("holds(0, given)", x.holds(0, 6), 1);
        due("refute() again", x.refute(), 2);
        // The first premise of 8 is proved: the refutation is that of the second.
        x = failed("d", 3, 3, 2, "(a->b)->c", "b");
        due("refute()", x.refute(), 1);
        due("worlds", worlds(x), "-1:12");
        x.prove(1, 5);
        due("refute()", x.refute(), -3);
        due("worlds", worlds(x), "-1:12");
        x.prove(0, 0);
        due("refute()", x.refute(), -3);
        // The right one of A & B fails, then that of A | B in LEFT.
        x = failed("a&b", 3, 1, 2, "a");
        due("refute()", x.refute(), 1);
        due("worlds", worlds(x), "-1:0");
        x = failed("a", 3, 1, 2, "a|b");
        x.forget();
        due("prove refused", x.prove(-1, 5), -1);
        due("refute()", x.refute(), 1);
        due("worlds", worlds(x), "-1:1");
    }

    private static void refutingRoom() {
        Dues.of(17, "refuting room");
        Asker x = new Asker();
        String some = "a" + "|a".repeat(28);
        due("prove", x.prove(read(x, some + "|(((p->q)->r)->s)"), 2000), 0);
        due("refute()", x.refute(), 60);
        due("about(0, 2, 0)", x.about(0, 2, 0), 60);
        // The left parts are one chain, each with its right part behind all that is above its left part.
        StringBuilder chain = new StringBuilder("-1:");
        for (int w = 1; w < 30; w++) chain.append(" ").append(w - 1).append(":");
        for (int w = 30; w < 59; w++) chain.append(" ").append(58 - w).append(":");
        due("worlds", worlds(x), chain + " 58:1");
        due("prove", x.prove(read(x, "a"), 2000), 0);
        due("refute()", x.refute(), 1);
        due("prove", x.prove(read(x, some + "|a|a"), 2000), 0);
        due("refute()", x.refute(), -4);
        due("count(3)", x.count(3), 1);
    }

    private static void clearing() {
        Dues.of(18, "clearing");
        Asker x = new Asker();
        read(x, "a");
        due("clear()", x.clear(), 1);
        x.world(0);
        x.force(0, 0);
        due("clear()", x.clear(), 2);
        due("worlds", worlds(x), "-1:");
        due("world(0)", x.world(0), 1);
        due("worlds", worlds(x), "-1: 0:");
    }

    private static void growing() {
        Dues.of(19, "growing");
        Asker x = new Asker();
        read(x, "a|b");
        due("world(1)", x.world(1), -1);
        due("world(-1)", x.world(-1), -1);
        due("world(0)", x.world(0), 1);
        due("force(1, 1)", x.force(1, 1), 1);
        due("world(1)", x.world(1), 2);
        due("world(0)", x.world(0), 3);
        due("worlds", worlds(x), "-1: 0:1 1:1 0:");
        for (int i = 4; i < 60; i++) due("world", x.world(i - 1), i);
        due("world(0)", x.world(0), -4);
        due("world(60)", x.world(60), -1);
        due("count(3)", x.count(3), 60);
    }

    private static void forcing() {
        Dues.of(20, "forcing");
        Asker x = new Asker();
        due("force(0, 0)", x.force(0, 0), -1);
        read(x, "a|b");
        x.world(0);
        x.world(1);
        x.world(0);
        due("force(0, 2)", x.force(0, 2), -1);
        due("force(0, -1)", x.force(0, -1), -1);
        due("force(4, 0)", x.force(4, 0), -1);
        due("force(-1, 0)", x.force(-1, 0), -1);
        due("force(2, 0)", x.force(2, 0), 1);
        due("force(1, 0)", x.force(1, 0), 1);
        due("force(1, 0)", x.force(1, 0), 0);
        due("worlds", worlds(x), "-1: 0:0 1:0 0:");
        due("force(0, 0)", x.force(0, 0), 2);
        due("force(0, 1)", x.force(0, 1), 4);
        due("worlds", worlds(x), "-1:01 0:01 1:01 0:01");
    }

    private static void asking() {
        Dues.of(21, "asking");
        Asker x = new Asker();
        read(x, "a");
        x.world(0);
        x.world(1);
        x.world(0);
        x.world(2);
        x.force(1, 0);
        int[] parents = {-1, 0, 1, 0, 2};
        int[] forced = {0, 1, 1, 0, 1};
        int[] above = {5, 3, 2, 1, 1};
        for (int w = 0; w < 5; w++) {
            due("about(" + w + ", 0, 0)", x.about(w, 0, 0), parents[w]);
            due("about(" + w + ", 1, 0)", x.about(w, 1, 0), forced[w]);
            due("about(" + w + ", 2, 9)", x.about(w, 2, 9), above[w]);
        }
        due("about(5, 0, 0)", x.about(5, 0, 0), -1);
        due("about(-1, 2, 0)", x.about(-1, 2, 0), -1);
        due("about(5, 7, 0)", x.about(5, 7, 0), -1);
        due("about(0, 1, 1)", x.about(0, 1, 1), -1);
        due("about(0, 1, -1)", x.about(0, 1, -1), -1);
        due("about(0, 0, 9)", x.about(1, 0, 9), 0);
        due("about(0, 3, 0)", x.about(0, 3, 0), -2);
        due("about(0, -1, 9)", x.about(0, -1, 9), -2);
    }

    private static void holding() {
        Dues.of(22, "holding");
        Asker x = new Asker();
        read(x, "a|b");
        x.world(0);
        x.world(0);
        x.world(1);
        x.force(1, 0);
        x.force(2, 1);
        x.force(3, 1);
        held(x, "true", "1111");
        held(x, "false", "0000");
        held(x, "a", "0101");
        held(x, "b", "0011");
        held(x, "a&b", "0001");
        held(x, "a|b", "0111");
        held(x, "~a", "0010");
        held(x, "a|~a", "0111");
        held(x, "~~a", "0101");
        held(x, "~~b", "1111");
        held(x, "a->b", "0011");
        held(x, "b->a", "0101");
        held(x, "~~(a|b)", "1111");
        held(x, "a->~b", "0010");
        due("holds(4, 0)", x.holds(4, 0), -1);
        due("holds(-1, 0)", x.holds(-1, 0), -1);
        due("holds(0, 1999)", x.holds(0, 1999), -1);
        due("holds(0, -1)", x.holds(0, -1), -1);
        for (int w = 3; w < 59; w++) x.world(w);
        x.force(59, 0);
        due("holds in the 60th", x.holds(59, read(x, "a&b")), 1);
    }

    private static void held(Asker x, String text, String where) {
        int f = read(x, text);
        for (int w = 0; w < where.length(); w++) {
            due("holds(" + w + ", " + text + ")", x.holds(w, f), where.charAt(w) - '0');
        }
    }
}
