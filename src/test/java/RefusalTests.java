/**
 * "ANSWERS below 0 are refusals and change nothing but as told; the first that fits": an object that has
 * refused a call goes on just as its twin does, which was not asked.
 */
public final class RefusalTests {
    private static final int MIN = Integer.MIN_VALUE;
    private static final int MAX = Integer.MAX_VALUE;

    private interface Setting { Asker made(); }

    private interface Call { int on(Asker x); }

    public static void main(String[] args) {
        outsideAndNone();
        notInThisState();
        noRoom();
        faults();
        spentAndFull();
        Dues.end("refusals");
    }

    // ---- the settings

    /** Something of all: a text with a fault, a page, what is given, a proof, worlds. */
    private static Asker rich() {
        Asker x = new Asker();
        int f = x.read("a|b->b|a");
        x.given(2);
        x.given(f);
        x.world(0);
        x.force(1, 1);
        x.prove(x.read("a&a"), 2000);
        x.write(f);
        x.read("a & ?");
        return x;
    }

    private static Asker refuted() {
        Asker x = rich();
        x.prove(x.read("b"), 2000);
        return x;
    }

    private static Asker withText() {
        Asker x = rich();
        x.text("a" + " ".repeat(2995));
        return x;
    }

    private static Asker withFormulas() {
        Asker x = new Asker();
        x.fill(2000);
        x.given(3);
        x.prove(3, 5);
        return x;
    }

    private static Asker withGiven() {
        Asker x = rich();
        for (int i = 2; i < 20; i++) x.given(1);
        return x;
    }

    private static Asker withWorlds() {
        Asker x = new Asker();
        x.read("a");
        for (int i = 1; i < 60; i++) x.world((i - 1) / 2);
        x.force(5, 0);
        return x;
    }

    private static Asker withLong() {
        Asker x = new Asker();
        int f = x.ofLength(8001);
        x.prove(x.make(5, f, f), 9);
        x.write(1);
        return x;
    }

    private static Asker withTree() {
        Asker x = new Asker();
        x.prove(x.read("a" + "|a".repeat(30)), 2000);
        x.world(0);
        x.force(1, 0);
        return x;
    }

    private static Asker withVariables() {
        Asker x = rich();
        x.read("a&b&c&d&e&f&g&h&i&j&k&l&m");
        return x;
    }

    // ---- what can be seen of an object

    private static String page(Asker x) {
        StringBuilder s = new StringBuilder();
        for (int i = 0; i < 12; i++) s.append(x.octet(i)).append(' ');
        return s.toString();
    }

    private static String searches(Asker x) {
        StringBuilder s = new StringBuilder("told");
        for (int what = 0; what < 4; what++) s.append(' ').append(x.told(what));
        s.append(" proof ").append(x.proof()).append(" page ").append(page(x));
        s.append(" refute ").append(x.refute()).append(" worlds ").append(x.count(3));
        return s.toString();
    }

    /** Without the searches and the place, which are told to change by some refusals. */
    private static String others(Asker x) {
        StringBuilder s = new StringBuilder("counts");
        for (int what = 0; what < 4; what++) s.append(' ').append(x.count(what));
        int last = x.count(0) - 1;
        for (int what = 0; what < 3; what++) s.append(' ').append(x.formula(last, what));
        s.append(" page ").append(page(x)).append(" parents");
        for (int w = 0; w < x.count(3); w++) s.append(' ').append(x.about(w, 0, 0)).append(x.about(w, 1, 0));
        return s.toString();
    }

    /** The text and what is given, which are only seen by being used. */
    private static String uses(Asker x) {
        StringBuilder s = new StringBuilder("read ");
        s.append(x.read()).append(" at ").append(x.place()).append(" check ").append(x.check(1)).append(" at ").append(x.place());
        s.append(" feed ").append(x.feed(' ', 1)).append(" count ").append(x.count(0));
        s.append(" prove ").append(x.prove(0, 300)).append(" told ").append(x.told(0)).append(' ').append(x.told(1));
        s.append(" forget ").append(x.forget());
        return s.toString();
    }

    private static void same(String name, Setting setting, Call call, int answer) {
        Asker x = setting.made();
        Asker twin = setting.made();
        Dues.due(name, call.on(x), answer);
        Dues.due("behind " + name, others(x), others(twin));
        Dues.due("place() behind " + name, x.place(), twin.place());
        Dues.due("searches behind " + name, searches(x), searches(twin));
        Dues.due("uses behind " + name, uses(x), uses(twin));
    }

    // ---- the refusals

    private static void outsideAndNone() {
        int[] outside = {MIN, -1, 9, 2001, MAX};
        for (int n : outside) {
            Dues.of(2, "-2 n is not 0 .. 8");
            same("feed(.., " + n + ")", RefusalTests::rich, x -> x.feed(0x61L, n), -2);
            Dues.of(5, "-2 no such what");
            same("count(" + n + ")", RefusalTests::rich, x -> x.count(n), -2);
            Dues.of(6, "-2 no such what");
            same("formula(2, " + n + ")", RefusalTests::rich, x -> x.formula(2, n), -2);
            Dues.of(7, "-2 another kind");
            same("make(" + n + ", 2, 3)", RefusalTests::rich, x -> x.make(n, 2, 3), -2);
            Dues.of(13, "-2 no such what");
            same("told(" + n + ")", RefusalTests::rich, x -> x.told(n), -2);
            Dues.of(21, "-2 no such what");
            same("about(0, " + n + ", 0)", RefusalTests::rich, x -> x.about(0, n, 0), -2);
            int steps = n == 9 ? -2 : n;
            Dues.of(12, "-2 steps are not 0 .. 2000");
            same("prove(2, " + steps + ")", RefusalTests::rich, x -> x.prove(2, steps), -2);
            same("prove(2, " + steps + ")", RefusalTests::refuted, x -> x.prove(2, steps), -2);
        }
        int[] none = {MIN, -1, 99, 2000, MAX};
        for (int f : none) {
            Dues.of(6, "-1 there is none");
            same("formula(" + f + ", 0)", RefusalTests::rich, x -> x.formula(f, 0), -1);
            Dues.of(7, "-1 there is no a, or b");
            same("make(3, " + f + ", 2)", RefusalTests::rich, x -> x.make(3, f, 2), -1);
            same("make(3, 2, " + f + ")", RefusalTests::rich, x -> x.make(3, 2, f), -1);
            Dues.of(8, "-1");
            same("write(" + f + ")", RefusalTests::rich, x -> x.write(f), -1);
            Dues.of(9, "-1 there is none");
            same("octet(" + f + ")", RefusalTests::rich, x -> x.octet(f), -1);
            Dues.of(10, "-1");
            same("given(" + f + ")", RefusalTests::rich, x -> x.given(f), -1);
            Dues.of(12, "-1");
            same("prove(" + f + ", 9)", RefusalTests::rich, x -> x.prove(f, 9), -1);
            same("prove(" + f + ", -1)", RefusalTests::refuted, x -> x.prove(f, -1), -1);
            Dues.of(15, "-1");
            same("check(" + f + ")", RefusalTests::rich, x -> x.check(f), -1);
            Dues.of(16, "-1");
            same("classical(" + f + ")", RefusalTests::rich, x -> x.classical(f), -1);
            Dues.of(19, "-1 there is no such parent");
            same("world(" + f + ")", RefusalTests::rich, x -> x.world(f), -1);
            Dues.of(20, "-1 there is no such world, or VARIABLE");
            same("force(" + f + ", 0)", RefusalTests::rich, x -> x.force(f, 0), -1);
            same("force(0, " + f + ")", RefusalTests::rich, x -> x.force(0, f), -1);
            Dues.of(21, "-1 there is no world (or, for 1, no VARIABLE)");
            same("about(" + f + ", 0, 0)", RefusalTests::rich, x -> x.about(f, 0, 0), -1);
            same("about(0, 1, " + f + ")", RefusalTests::rich, x -> x.about(0, 1, f), -1);
            Dues.of(22, "-1 there is no such world, or FORMULA");
            same("holds(" + f + ", 1)", RefusalTests::rich, x -> x.holds(f, 1), -1);
            same("holds(0, " + f + ")", RefusalTests::rich, x -> x.holds(0, f), -1);
        }
    }

    private static void notInThisState() {
        Dues.of(14, "-3 it was none, or not PROVED");
        same("proof()", Asker::new, Asker::proof, -3);
        same("proof()", RefusalTests::refuted, Asker::proof, -3);
        Dues.of(17, "-3 it was none, or did not FAIL");
        same("refute()", Asker::new, Asker::refute, -3);
        same("refute()", RefusalTests::rich, Asker::refute, -3);
        Dues.of(13, "3 its answer (-3 before any)");
        same("told(3)", Asker::new, x -> x.told(3), -3);
    }

    private static void noRoom() {
        Dues.of(2, "-4");
        same("feed(.., 5)", RefusalTests::withText, x -> x.feed(0x6161616161L, 5), -4);
        same("feed(.., 8)", RefusalTests::withText, x -> x.feed(0x6161616161616161L, 8), -4);
        Dues.of(7, "-4 it would be 2000");
        for (int kind = 3; kind < 6; kind++) {
            int k = kind;
            same("make(" + kind + ", 0, 0)", RefusalTests::withFormulas, x -> x.make(k, 0, 0), -4);
        }
        Dues.of(8, "-4 more than 8000");
        same("write", RefusalTests::withLong, x -> x.write(x.count(0) - 1), -4);
        Dues.of(10, "-4 there are 20");
        same("given(0)", RefusalTests::withGiven, x -> x.given(0), -4);
        Dues.of(14, "-4 more than 8000");
        same("proof()", RefusalTests::withLong, Asker::proof, -4);
        Dues.of(16, "-4 it has more than 12");
        same("classical", RefusalTests::withVariables, x -> x.classical(x.count(0) - 1), -4);
        Dues.of(17, "-4 more than 60");
        same("refute()", RefusalTests::withTree, Asker::refute, -4);
        Dues.of(19, "-4");
        same("world(3)", RefusalTests::withWorlds, x -> x.world(3), -4);
    }

    /** A fault changes the place, and what was made stays; but for that, all is as it was. */
    private static void faults() {
        String[] texts = {"?", "", "a b", "~".repeat(41), "a & ?", "(b->a", "a|b->b|a)"};
        int[] answers = {-11, -12, -12, -13, -11, -12, -12};
        for (int i = 0; i < texts.length; i++) {
            String s = texts[i];
            fault("read of " + s, x -> x.read(s), answers[i]);
            fault("check of L(" + s, x -> x.check("L(" + s, 1), answers[i]);
        }
        fault("check of h2", x -> x.check("h2", 1), -16);
        fault("check of F(h2", x -> x.check("F(h2", 1), -16);
    }

    private static void fault(String name, Call call, int answer) {
        Dues.of(name.startsWith("read") ? 3 : 15, "-10 less the FAULT");
        Asker x = rich();
        Asker twin = rich();
        // A formula that the texts may make, so that the twins have it both.
        x.read("b->a");
        twin.read("b->a");
        Dues.due(name, call.on(x), answer);
        Dues.due("behind " + name, others(x), others(twin));
        Dues.due("searches behind " + name, searches(x), searches(twin));
        x.text("h1");
        twin.text("h1");
        Dues.due("uses behind " + name, uses(x), uses(twin));
    }

    private static void spentAndFull() {
        Dues.of(12, "-6");
        search("prove(2, 0)", x -> x.prove(2, 0), -6);
        search("prove(.., 3)", x -> x.prove(x.make(3, 4, 5), 1), -6);
        Dues.of(12, "-7");
        search("prove of a deep one", x -> {
            int f = 3;
            for (int i = 0; i < 200; i++) f = x.make(5, 2, f);
            return x.prove(f, 2000);
        }, -7);
    }

    /** What is SPENT or FULL is told; what is given, the worlds, the page, the text and the place are as they were. */
    private static void search(String name, Call call, int answer) {
        Asker x = rich();
        Asker twin = rich();
        Dues.due(name, call.on(x), answer);
        Dues.due("told(3) behind " + name, x.told(3), answer);
        Dues.due("proof() behind " + name, x.proof(), -3);
        Dues.due("refute() behind " + name, x.refute(), -3);
        Dues.due("worlds behind " + name, x.worlds(), twin.worlds());
        Dues.due("page behind " + name, page(x), page(twin));
        Dues.due("place behind " + name, x.place(), twin.place());
        Dues.due("count(2) behind " + name, x.count(2), twin.count(2));
        Dues.due("read behind " + name, x.read(), twin.read());
        Dues.due("prove behind " + name, x.prove(2, 9), twin.prove(2, 9));
        Dues.due("proof behind " + name, x.page(x.proof()), twin.page(twin.proof()));
    }
}
