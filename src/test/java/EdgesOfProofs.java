/** Boundary cases of promises 10 to 16: what is given, the search and its limits, terms, assignments. */
public final class EdgesOfProofs {
    private static final int MIN = Integer.MIN_VALUE;
    private static final int MAX = Integer.MAX_VALUE;
    private static final String ALL_VARIABLES = "a&b&c&d&e&f&g&h&i&j&k&l&m&n&o&p&q&r&s&t&u&v&w&x";

    public static void main(String[] args) {
        given();
        givenTwice();
        forget();
        proveRefused();
        spent();
        spentAtMost();
        leftFullByGoal();
        leftFullByPair();
        leftFullByEither();
        leftFullByNested();
        leftWithRoom();
        numbersFull();
        numbersThatAreThere();
        deepByGoals();
        deepByLeft();
        deepAheadOfSpent();
        madeStays();
        comesOnce();
        firstThatFits();
        behindAnother();
        told();
        toldOfLatest();
        proofRefused();
        proofTooLong();
        proofOfLatest();
        proofByNested();
        checkOfNone();
        hypotheses();
        hypothesesAround();
        letters();
        shapes();
        openTerms();
        openWithFormulas();
        roomInTerms();
        askingMakesNone();
        textsOfTerms();
        proofsAndHaving();
        boundWithin();
        proofsFortyDeep();
        havingFortyDeep();
        checkAgain();
        classical();
        classicalMany();
        Dues.end("edges of proofs", 10, 16);
    }

    private static void due(String call, long got, long want) { Dues.due(call, got, want); }

    private static void due(String call, String got, String want) { Dues.due(call, got, want); }

    private static Asker from(String... givens) {
        Asker x = new Asker();
        for (String g : givens) x.given(x.read(g));
        return x;
    }

    /** The search for a text: its answer, its steps, the most in LEFT and its depth. */
    private static void search(Asker x, String goal, int answer, int steps, int most, int deep) {
        String s = goal.length() > 30 ? goal.substring(0, 30) + ".." : goal;
        due("prove of " + s, x.prove(x.read(goal), 2000), answer);
        due("told(0) of " + s, x.told(0), steps);
        due("told(1) of " + s, x.told(1), most);
        due("told(2) of " + s, x.told(2), deep);
        due("told(3) of " + s, x.told(3), answer);
    }

    private static void proved(Asker x, String goal, String proof) {
        due("prove of " + goal, x.prove(x.read(goal), 2000), 1);
        due("proof of " + goal, x.page(x.proof()), proof);
    }

    private static void fault(Asker x, String text, int number, int place) {
        String s = text.length() > 40 ? text.substring(0, 20) + ".." + text.substring(text.length() - 18) : text;
        due("check of " + s, x.check(text, 1), -10 - number);
        due("place in " + s, x.place(), place);
    }

    private static void fault(String text, int number, int place) { fault(new Asker(), text, number, place); }

    /** On a new object the term is read without a fault; it is no proof of false. */
    private static void good(String text) {
        Asker x = new Asker();
        due("check of a term of " + text.length() + " bytes", x.check(text, 0), 0);
        due("place()", x.place(), -1);
    }

    // ---- 10

    private static void given() {
        Dues.of(10, "-1");
        Asker x = new Asker();
        x.read("a");
        int[] none = {-1, 3, 4, 2000, MIN, MAX};
        for (int f : none) due("given(" + f + ")", x.given(f), -1);
        due("count(2)", x.count(2), 0);
        Dues.of(10, "-4 there are 20");
        for (int i = 1; i <= 20; i++) due("given(1)", x.given(1), i);
        due("given(1)", x.given(1), -4);
        due("given(2)", x.given(2), -4);
        for (int f : none) due("given(" + f + ")", x.given(f), -1);
        due("count(2)", x.count(2), 20);
        due("the 21st is not there", x.prove(2, 99), 0);
        due("forget()", x.forget(), 20);
        due("given(2)", x.given(2), 1);
        due("the first is there", x.prove(2, 99), 1);
        Dues.of(10, "behind those that are");
        x = new Asker();
        x.read("a");
        for (int i = 0; i < 19; i++) x.given(1);
        due("given(2)", x.given(2), 20);
        proved(x, "a", "h19");
        due("check of h19", x.check("h19", 2), 1);
        due("check of h18", x.check("h18", 2), 0);
        x = new Asker();
        x.fill(2000);
        due("given(1999)", x.given(1999), 1);
        due("given(2000)", x.given(2000), -1);
        due("prove(1999, 1)", x.prove(1999, 1), 1);
    }

    private static void givenTwice() {
        Dues.of(10, "LEFT at the beginning .. (each once) .. (those that were given twice count twice)");
        Asker x = from("a", "a", "b", "a", "b");
        due("count(2)", x.count(2), 5);
        proved(x, "a", "h0");
        proved(x, "b", "h2");
        due("told(1)", x.told(1), 2);
        proved(x, "c->c", "L(c,h5)");
        due("check of h1", x.check("h1", x.read("a")), 1);
        due("check of h4", x.check("h4", x.read("b")), 1);
        due("check of h5", x.check("h5", x.read("b")), -16);
    }

    // ---- 11

    private static void forget() {
        Dues.of(11, "Nothing is GIVEN: how many were");
        Asker x = new Asker();
        due("forget()", x.forget(), 0);
        int a = x.read("a");
        for (int n = 1; n <= 20; n += 19) {
            for (int i = 0; i < n; i++) x.given(a);
            due("prove", x.prove(a, 9), 1);
            due("forget()", x.forget(), n);
            due("forget()", x.forget(), 0);
            due("count(2)", x.count(2), 0);
            due("told(3)", x.told(3), 1);
            due("prove", x.prove(a, 9), 0);
            due("told(1)", x.told(1), 0);
            due("check of h0", x.check("h0", a), -16);
        }
        proved(x, "a->a", "L(a,h0)");
    }

    // ---- 12

    private static void proveRefused() {
        Asker x = new Asker();
        x.read("a->a");
        Dues.of(12, "-1");
        int[] none = {-1, 4, 5, 2000, MIN, MAX};
        int[] outside = {-1, 2001, 2002, MIN, MAX};
        for (int f : none) {
            due("prove(" + f + ", 9)", x.prove(f, 9), -1);
            for (int steps : outside) due("prove(" + f + ", " + steps + ")", x.prove(f, steps), -1);
        }
        Dues.of(12, "-2 steps are not 0 .. 2000");
        for (int steps : outside) due("prove(3, " + steps + ")", x.prove(3, steps), -2);
        due("told(3)", x.told(3), -3);
        due("prove(3, 0)", x.prove(3, 0), -6);
        due("prove(3, 2000)", x.prove(3, 2000), 1);
    }

    private static void spent() {
        Dues.of(12, "SPENT when one STEP more than may be made would begin");
        String[] goals = {"true", "a", "a->a", "a&b", "a|b", "a|true", "a&b->b&a", "a|b->b|a", "~~(a|~a)", "((a->b)->a)->a"};
        int[] steps = {1, 1, 2, 2, 3, 3, 6, 7, 6, 3};
        int[] answers = {1, 0, 1, 0, 0, 1, 1, 1, 1, 0};
        for (int i = 0; i < goals.length; i++) {
            Asker x = new Asker();
            int f = x.read(goals[i]);
            for (int may = 0; may < steps[i]; may++) {
                due("prove of " + goals[i] + " with " + may, x.prove(f, may), -6);
                due("told(0)", x.told(0), may);
                due("told(3)", x.told(3), -6);
            }
            for (int may = steps[i]; may < steps[i] + 3; may++) {
                due("prove of " + goals[i] + " with " + may, x.prove(f, may), answers[i]);
                due("told(0)", x.told(0), steps[i]);
            }
        }
        Asker x = from("a", "false");
        due("0 steps, the goal is in LEFT", x.prove(2, 0), -6);
        due("0 steps, false is in LEFT", x.prove(1, 0), -6);
        due("1 step", x.prove(2, 1), 1);
    }

    /** A formula of so many times true, joined by &: it is proved in twice as many steps less 1. */
    private static int trues(Asker x, int leaves) {
        int f = -1;
        int doubled = 1;
        for (int bit = 1; bit <= leaves; bit *= 2) {
            if ((leaves & bit) != 0) f = f < 0 ? doubled : x.make(3, doubled, f);
            doubled = x.make(3, doubled, doubled);
        }
        return f;
    }

    private static void spentAtMost() {
        Dues.of(12, "with so many STEPS at most (2000)");
        Asker x = new Asker();
        int f = x.make(3, trues(x, 999), x.make(5, 1, 1));
        due("2000 steps with 2000", x.prove(f, 2000), 1);
        due("told(0)", x.told(0), 2000);
        due("proof()", x.proof(), 999 + 4 * 998 + 4 + 10);
        due("2000 steps with 1999", x.prove(f, 1999), -6);
        due("told(0)", x.told(0), 1999);
        int g = trues(x, 1001);
        due("2001 steps with 2000", x.prove(g, 2000), -6);
        due("told(0)", x.told(0), 2000);
        due("proof()", x.proof(), -3);
        int h = x.make(3, x.make(3, trues(x, 998), x.make(5, 1, 1)), x.read("a"));
        due("2000 steps with 2000, failed", x.prove(h, 2000), 0);
        due("told(0)", x.told(0), 2000);
        due("refute()", x.refute(), 1);
        due("2000 steps with 1999, failed", x.prove(h, 1999), -6);
        due("refute()", x.refute(), -3);
        due("1 step", x.prove(1, 2000), 1);
        due("told(0)", x.told(0), 1);
    }

    /** So many that LEFT can do nothing with while y and z are not in it: v0 .., then y -> v0 .., then z -> v0 .. */
    private static String row(int many) {
        StringBuilder s = new StringBuilder();
        for (int i = 0; i < many; i++) {
            s.append(i == 0 ? "" : "&");
            s.append(i < 22 ? "v" + i : i < 44 ? "(y->v" + (i - 22) + ")" : "(z->v" + (i - 44) + ")");
        }
        return s.toString();
    }

    private static void leftFullByGoal() {
        Dues.of(12, "FULL when LEFT would have more than 60 FORMULAS: GOAL A -> B");
        search(from(row(60)), "(y->z)|z", -7, 61, 60, 61);
        search(from(row(59)), "(y->z)|z", 0, 84, 60, 83);
        Dues.of(12, ".. but not if it is there already");
        search(from(row(60)), "(v0->z)|z", 0, 63, 60, 62);
    }

    private static void leftFullByPair() {
        Dues.of(12, "FULL when LEFT would have more than 60 FORMULAS: A & B in LEFT");
        search(from(row(60)), "z", 0, 60, 60, 60);
        search(from(row(61)), "z", -7, 60, 60, 60);
        Dues.of(12, ".. but not if it is there already");
        search(from(row(60) + "&v0"), "z", 0, 61, 60, 61);
        search(from(row(60) + "&v1"), "z", 0, 61, 60, 61);
        Dues.of(12, "FULL when LEFT would have more than 60 FORMULAS: on the way, too");
        search(from(row(60) + "&v0&v1"), "z", -7, 60, 60, 60);
    }

    private static void leftFullByEither() {
        Dues.of(12, "FULL when LEFT would have more than 60 FORMULAS: (A | B) -> D in LEFT");
        search(from("((y|z)->z)&" + row(58)), "y", 0, 60, 60, 60);
        search(from("((y|z)->z)&" + row(59)), "y", -7, 60, 60, 60);
        Dues.of(12, ".. but not if it is there already");
        search(from("((y|z)->z)&(y->z)&" + row(58)), "y", 0, 61, 60, 61);
        search(from("((y|z)->z)&(z->z)&" + row(58)), "y", 0, 61, 60, 61);
        search(from("((y|z)->z)&(z->z)&(y->z)&" + row(57)), "y", 0, 61, 60, 61);
    }

    private static void leftFullByNested() {
        Dues.of(12, "FULL when LEFT would have more than 60 FORMULAS: (A -> B) -> D in LEFT");
        search(from("((y->z)->z)&" + row(58)), "y", 0, 82, 60, 82);
        search(from("((y->z)->z)&" + row(59)), "y", -7, 60, 60, 60);
        Dues.of(12, ".. but not if it is there already");
        search(from("((v0->z)->z)&" + row(59)), "y", 0, 61, 60, 61);
        search(from("((y->z)->z)&(z->z)&" + row(58)), "y", 0, 83, 60, 83);
    }

    private static void leftWithRoom() {
        Dues.of(12, "what GOES is taken out (ahead of what COMES)");
        search(from("(true->y)&" + row(59)), "false", 0, 83, 60, 83);
        search(from("(v0->y)&" + row(59)), "false", 0, 83, 60, 83);
        search(from("(y&z->z)&" + row(59)), "false", 0, 61, 60, 61);
        search(from("(y|false)&" + row(59)), "false", 0, 83, 60, 83);
        search(from("true&" + row(59)), "false", 0, 61, 60, 61);
        search(from("(false->y)&" + row(59)), "false", 0, 61, 60, 61);
    }

    private static void numbersFull() {
        Dues.of(12, "FULL when .. a FORMULA with the NUMBER 2000 would be made; FORMULAS that were made stay");
        String[] givens = {"a&b->c", "a|b->c", "(a->b)->c"};
        String[][] made = {{"(b->c)", "(a->(b->c))"}, {"(a->c)", "(b->c)"}, {"(b->c)"}};
        for (int i = 0; i < givens.length; i++) {
            for (int room = 0; room <= made[i].length; room++) {
                Asker x = new Asker();
                int f = x.read(givens[i]);
                due("count(0)", x.fill(2000 - room), 2000 - room);
                x.given(f);
                boolean enough = room == made[i].length;
                due("prove from " + givens[i] + " with room for " + room, x.prove(0, 2000), enough ? 0 : -7);
                due("told(0)", x.told(0), enough ? 2 : 1);
                due("told(3)", x.told(3), enough ? 0 : -7);
                due("count(0)", x.count(0), 2000);
                for (int k = 0; k < room; k++) due("what was made", x.page(x.write(2000 - room + k)), made[i][k]);
                due("again", x.prove(0, 2000), enough ? 0 : -7);
            }
        }
    }

    private static void numbersThatAreThere() {
        Dues.of(12, "FULL when .. a FORMULA with the NUMBER 2000 would be made (those that are there are not)");
        String[] givens = {"a&b->c", "a|b->c", "(a->b)->c"};
        String[] there = {"a->b->c", "(a->c)&(b->c)", "b->c"};
        for (int i = 0; i < givens.length; i++) {
            Asker x = new Asker();
            x.read(there[i]);
            int f = x.read(givens[i]);
            due("count(0)", x.fill(2000), 2000);
            x.given(f);
            due("prove from " + givens[i], x.prove(0, 2000), 0);
            due("told(0)", x.told(0), 2);
        }
    }

    /** A goal, a that many times within another formula: before it or behind it. */
    private static int around(Asker x, int times, int kind, int other, boolean before) {
        int f = x.read("a");
        int b = other < 0 ? x.read("b") : other;
        for (int i = 0; i < times; i++) f = before ? x.make(kind, b, f) : x.make(kind, f, b);
        return f;
    }

    private static void deep(int times, int kind, int other, boolean before, int steps) {
        Asker x = new Asker();
        int f = around(x, times, kind, other, before);
        due("prove, " + times + " around", x.prove(f, 2000), 0);
        due("told(0)", x.told(0), steps);
        due("told(2)", x.told(2), 200);
        int g = before ? x.make(kind, x.formula(f, 1), f) : x.make(kind, f, x.formula(f, 2));
        due("prove, " + (times + 1) + " around", x.prove(g, 2000), -7);
        due("told(2)", x.told(2), 200);
        due("told(3)", x.told(3), -7);
        due("proof()", x.proof(), -3);
        due("refute()", x.refute(), -3);
        due("prove again", x.prove(f, 2000), 0);
    }

    private static void deepByGoals() {
        Dues.of(12, "FULL when .. a PROVING would be within 200 others: by goals");
        deep(199, 5, -1, true, 200);
        deep(199, 3, 1, false, 200);
        deep(199, 3, 1, true, 399);
        deep(199, 4, 0, false, 399);
        deep(199, 4, 0, true, 399);
        Asker x = new Asker();
        int f = around(x, 200, 5, -1, true);
        x.prove(f, 2000);
        due("told(0): before its STEP", x.told(0), 200);
    }

    private static void deepByLeft() {
        Dues.of(12, "FULL when .. a PROVING would be within 200 others: by LEFT");
        for (int n = 199; n <= 201; n++) {
            Asker x = from("a" + "&a".repeat(n - 1) + "->d");
            int before = x.count(0);
            due("prove, " + n, x.prove(0, 2000), n > 200 ? -7 : 0);
            due("told(0)", x.told(0), Math.min(n, 200));
            due("told(2)", x.told(2), Math.min(n, 200));
            due("count(0)", x.count(0), before + 2 * (n - 1));
        }
    }

    private static void deepAheadOfSpent() {
        Dues.of(12, "within 200 others (before its STEP)");
        Asker x = new Asker();
        int f = around(x, 200, 5, -1, true);
        due("199 steps", x.prove(f, 199), -6);
        due("told(2)", x.told(2), 199);
        due("200 steps", x.prove(f, 200), -7);
        due("told(0)", x.told(0), 200);
        due("201 steps", x.prove(f, 201), -7);
        due("told(0)", x.told(0), 200);
        due("told(1): b COMES once", x.told(1), 1);
        int g = x.formula(f, 2);
        due("the one within, 199 steps", x.prove(g, 199), -6);
        due("the one within, 200 steps", x.prove(g, 200), 0);
    }

    private static void madeStays() {
        Dues.of(12, "FORMULAS that were made stay");
        Asker x = from("a&b->c");
        due("count(0)", x.count(0), 7);
        due("0 steps", x.prove(0, 0), -6);
        due("count(0)", x.count(0), 7);
        due("1 step", x.prove(0, 1), -6);
        due("count(0)", x.count(0), 9);
        due("b->c ahead of a->(b->c)", x.page(x.write(7)), "(b->c)");
        due("a->(b->c)", x.page(x.write(8)), "(a->(b->c))");
        due("2 steps", x.prove(0, 2), 0);
        due("count(0)", x.count(0), 9);
        due("count(2)", x.count(2), 1);
    }

    private static void comesOnce() {
        Dues.of(12, "What COMES to LEFT is put behind all, but not if it is there already (it keeps its TERM)");
        proved(from("a&a"), "a", "F(h0)");
        proved(from("a", "a&b"), "b&a", "P(S(h1),h0)");
        proved(from("a&b", "a"), "a", "h1");
        proved(from("a&b", "a"), "c|a", "J(h1)");
        proved(new Asker(), "a->a->a", "L(a,L(a,h0))");
        proved(from("a|b", "a"), "c|a", "C(h0,J(h1),J(h1))");
        proved(from("b->c", "a->c", "a", "b"), "d|c", "J(A(h0,h3))");
        proved(from("a&b", "d", "a->c", "b->c"), "e|c", "J(A(h2,F(h0)))");
        Dues.of(12, "what GOES is taken out, the others stay in order");
        proved(from("true", "b->c", "a", "b", "a->c"), "d|c", "J(A(h1,h3))");
        proved(from("e", "true", "b->c", "a->c", "a", "b"), "d|c", "J(A(h2,h5))");
        proved(from("false->e", "b->c", "a", "b", "a->c"), "d|c", "J(A(h1,h3))");
    }

    private static void firstThatFits() {
        Dues.of(12, "the first of these that fits, on LEFT and GOAL as they are");
        proved(from("false"), "false", "h0");
        proved(from("true"), "true", "h0");
        proved(from("false"), "true", "X(h0)");
        proved(from("a", "false"), "a", "h0");
        proved(from("a", "false"), "b", "X(h1)");
        proved(from("a->b", "false"), "a->b", "h0");
        proved(from("false"), "a->b", "X(h0)");
        proved(from("false"), "a&b", "X(h0)");
        proved(from("a&b"), "a&b", "h0");
        proved(from("a|b"), "c->c", "L(c,h1)");
        proved(from("a|b"), "true&true", "P(T,T)");
        proved(from("a&b"), "a|b", "I(F(h0))");
        proved(from("a|b"), "true|c", "C(h0,I(T),I(T))");
        proved(from("(a->b)->c", "b"), "b|c", "I(h1)");
        proved(from("(a->b)->c", "b"), "d|c", "J(A(h0,L(a,h1)))");
    }

    /** The premise c -> c is PROVED by rule 4 at the depth at which rule 6 then has its turn. */
    private static void behindAnother() {
        Dues.of(12, "6 .. Then PROVING what there is (as deep as a PROVING by another rule was)");
        String goal = "(c->c)&(d|b)";
        proved(from("true", "b"), goal, "P(L(c,h2),J(h1))");
        proved(from("a&b"), goal, "P(L(c,h1),J(S(h0)))");
        proved(from("true->b"), goal, "P(L(c,h1),J(A(h0,T)))");
        proved(from("false->a", "b"), goal, "P(L(c,h2),J(h1))");
        proved(from("a->b", "a"), goal, "P(L(c,h2),J(A(h0,h1)))");
        proved(from("a&e->b", "a", "e"), goal, "P(L(c,h3),J(A(A(L(a,L(e,A(h0,P(h3,h4)))),h1),h2)))");
        proved(from("a|e->b", "e"), goal, "P(L(c,h2),J(A(L(e,A(h0,J(h2))),h1)))");
        proved(from("a|b"), "(c->c)&(b|a)", "P(L(c,h1),C(h0,J(h1),I(h1)))");
        proved(from("(a->a)->b"), goal, "P(L(c,h1),J(A(h0,L(a,h1))))");
    }

    // ---- 13

    private static void told() {
        Dues.of(13, "-2 no such what");
        Asker x = new Asker();
        int[] outside = {-1, 4, 5, MIN, MAX};
        for (int what : outside) due("told(" + what + ")", x.told(what), -2);
        Dues.of(13, "3 its answer (-3 before any)");
        due("told(3)", x.told(3), -3);
        x.prove(2, 5);
        x.prove(1, -1);
        x.prove(1, 2001);
        due("told(3) behind those that were refused", x.told(3), -3);
        Dues.of(13, "how deep PROVINGS were within one another (1 for one)");
        due("prove(1, 1)", x.prove(1, 1), 1);
        int[] one = {1, 0, 1, 1};
        for (int what = 0; what < 4; what++) due("told(" + what + ")", x.told(what), one[what]);
        for (int what : outside) due("told(" + what + ")", x.told(what), -2);
        due("prove(0, 1)", x.prove(0, 1), 0);
        int[] failed = {1, 0, 1, 0};
        for (int what = 0; what < 4; what++) due("told(" + what + ")", x.told(what), failed[what]);
    }

    private static void toldOfLatest() {
        Dues.of(13, "Of the latest prove() that was not refused by -1, -2");
        Asker x = new Asker();
        int f = x.read("a|b->b|a");
        x.prove(f, 2000);
        int[] due = {7, 1, 4, 1};
        x.prove(-1, 5);
        x.prove(99, 5);
        x.prove(f, -1);
        x.prove(f, 2001);
        x.given(2);
        x.forget();
        x.proof();
        x.refute();
        x.read("?");
        x.check("T", 1);
        for (int what = 0; what < 4; what++) due("told(" + what + ")", x.told(what), due[what]);
        x.prove(f, 2);
        int[] spent = {2, 1, 2, -6};
        for (int what = 0; what < 4; what++) due("told(" + what + ")", x.told(what), spent[what]);
        x.prove(2, 2000);
        int[] failed = {1, 0, 1, 0};
        for (int what = 0; what < 4; what++) due("told(" + what + ")", x.told(what), failed[what]);
        x.fill(2000);
        x.given(x.read("a"));
        x.prove(x.read("a"), 9);
        due("told(1)", x.told(1), 1);
        due("told(3)", x.told(3), 1);
    }

    // ---- 14

    private static void proofRefused() {
        Dues.of(14, "-3 it was none, or not PROVED");
        Asker x = new Asker();
        due("proof()", x.proof(), -3);
        x.prove(7, 5);
        x.prove(1, 2001);
        due("proof() behind those that were refused", x.proof(), -3);
        due("prove(0, 5)", x.prove(0, 5), 0);
        due("proof() of what FAILED", x.proof(), -3);
        due("prove(1, 5)", x.prove(1, 5), 1);
        due("proof()", x.proof(), 1);
        due("prove(1, 0)", x.prove(1, 0), -6);
        due("proof() of what was SPENT", x.proof(), -3);
        due("prove(1, 5)", x.prove(1, 5), 1);
        due("prove FULL", x.prove(around(x, 200, 5, -1, true), 2000), -7);
        due("proof() of what was FULL", x.proof(), -3);
        due("octet(0)", x.octet(0), 'T');
        due("octet(1)", x.octet(1), -1);
    }

    private static void proofTooLong() {
        Dues.of(14, "-4 more than 8000");
        for (int bytes = 7998; bytes <= 8003; bytes++) {
            Asker x = new Asker();
            int f = x.ofLength(bytes - 6);
            due("prove", x.prove(x.make(5, f, f), 9), 1);
            due("write(0)", x.write(0), 5);
            for (int twice = 0; twice < 2; twice++) {
                due("proof() of " + bytes, x.proof(), bytes > 8000 ? -4 : bytes);
                due("octet(0)", x.octet(0), bytes > 8000 ? 'f' : 'L');
                due("octet(" + (bytes - 2) + ")", x.octet(bytes - 2), bytes > 8000 ? -1 : '0');
                due("octet(" + (bytes - 1) + ")", x.octet(bytes - 1), bytes > 8000 ? -1 : ')');
                due("octet(" + bytes + ")", x.octet(bytes), -1);
            }
            due("told(3)", x.told(3), 1);
        }
        Asker x = new Asker();
        int f = x.read("a&b");
        for (int i = 0; i < 60; i++) f = x.make(3, f, f);
        due("prove of more than can be written", x.prove(x.make(5, f, f), 2000), 1);
        due("write of more than can be counted", x.write(f), -4);
        due("proof() of more than can be counted", x.proof(), -4);
    }

    private static void proofOfLatest() {
        Dues.of(14, "The TERM of the latest prove() is WRITTEN");
        Asker x = from("b", "b");
        int f = x.read("a->a");
        due("prove", x.prove(f, 9), 1);
        x.forget();
        for (int i = 0; i < 9; i++) x.given(1);
        x.prove(-1, 9);
        x.prove(f, 2001);
        x.read("?");
        due("as it was GIVEN then", x.page(x.proof()), "L(a,h2)");
        due("twice", x.page(x.proof()), "L(a,h2)");
        due("prove", x.prove(f, 9), 1);
        due("as it is GIVEN now", x.page(x.proof()), "L(a,h9)");
        x.given(1);
        due("prove", x.prove(f, 9), 1);
        due("a number of two signs", x.page(x.proof()), "L(a,h10)");
        for (int i = 10; i < 20; i++) x.given(1);
        proved(x, "a->b->a", "L(a,L(b,h20))");
        proved(x, "a->b->b", "L(a,L(b,h21))");
        Dues.of(14, "those that are bound within it are numbered by where it stands");
        proved(from("c", "a|b"), "(c&a)|(b&c)", "C(h1,I(P(h0,h2)),J(P(h2,h0)))");
        proved(from("a|b", "c|d"), "(c|d)&(b|a)", "P(h1,C(h0,C(h1,J(h2),J(h2)),C(h1,I(h2),I(h2))))");
        proved(from("a|b->c"), "d->a->c", "L(d,L(a,A(L(a,A(h0,I(h3))),h2)))");
        proved(from("a&b->c"), "a->b->c", "L(a,L(b,A(A(L(a,L(b,A(h0,P(h3,h4)))),h1),h2)))");
    }

    private static void proofByNested() {
        Dues.of(14, "8 .. with B -> D that COMES with L(B,A(t,L(A,hn)))");
        Asker x = new Asker();
        proved(x, "~~(~~a->a)", "L(((((a->false)->false)->a)->false),A(h0,L(((a->false)->false),"
            + "X(A(h1,L(a,A(L(a,A(h0,L(((a->false)->false),h3))),h2)))))))");
        due("told(0)", x.told(0), 7);
        due("told(2)", x.told(2), 5);
        x = new Asker();
        proved(x, "~~(((a->b)->a)->a)", "L(((((a->b)->a)->a)->false),A(h0,L(((a->b)->a),"
            + "A(h1,L(a,X(A(L(a,A(h0,L(((a->b)->a),h3))),h2)))))))");
        due("told(0)", x.told(0), 7);
        x = from("c", "(~~a->a)->false");
        proved(x, "false", "A(h1,L(((a->false)->false),X(A(h2,L(a,A(L(a,A(h1,L(((a->false)->false),h4))),h3))))))");
    }

    // ---- 15

    private static void checkOfNone() {
        Dues.of(15, "-1");
        Asker x = new Asker();
        x.text("L(a,T)");
        int[] none = {-1, 2, 3, 2000, MIN, MAX};
        for (int f : none) due("check(" + f + ")", x.check(f), -1);
        due("the text is not read", x.count(0), 2);
        x.text("?");
        due("check(2)", x.check(2), -1);
        due("place()", x.place(), -1);
        due("check(0)", x.check(0), -11);
        due("check(2)", x.check(2), -1);
    }

    private static void hypotheses() {
        Dues.of(15, "a hypothesis (a NAME that is h and a number without 0s before it)");
        Asker x = new Asker();
        for (int i = 0; i < 12; i++) x.given(1);
        String[] good = {"h0", "h1", "h9", "h10", "h11", " h0 ", "\th11\n"};
        for (String s : good) due("check of " + s, x.check(s, 1), 1);
        String[] no = {"h", "h00", "h01", "h001", "h010", "hh", "hh0", "h0h", "h1a", "a", "a0", "g0", "i0", "ha", "h0a", "true", "false"};
        for (String s : no) fault(x, s, 2, 0);
        fault(x, "h 0", 2, 0);
        fault(x, "F(h00", 2, 2);
        fault(x, "H0", 1, 0);
        fault(x, "h000000", 1, 0);
        fault(x, "h100000", 1, 0);
        fault(x, "h99999", 6, 0);
        fault(x, "h00000", 2, 0);
    }

    private static void hypothesesAround() {
        Dues.of(15, "6 at a hypothesis that is not around");
        fault("h0", 6, 0);
        Asker x = from("a|b", "true");
        due("check of h1", x.check("h1", 1), 1);
        fault(x, "h2", 6, 0);
        fault(x, " P( h0 , h2 )", 6, 9);
        int f = x.read("a->true");
        due("within L", x.check("L(a,h1)", f), 1);
        due("its own", x.check("L(a,h2)", x.read("a->a")), 1);
        fault(x, "L(a,h3)", 6, 4);
        fault(x, "P(L(a,h2),h2)", 6, 10);
        fault(x, "L(a,P(L(b,h3),h3))", 6, 14);
        due("within C", x.check("C(h0,I(h2),J(h2))", x.read("a|b")), 1);
        fault(x, "C(h2,T,T)", 6, 2);
        fault(x, "C(h0,h3,T)", 6, 5);
        fault(x, "C(h0,T,h3)", 6, 7);
        fault(x, "P(C(h0,T,h2),h2)", 6, 13);
        fault(x, "A(L(a,h2),h2)", 6, 10);
        x = new Asker();
        for (int i = 0; i < 20; i++) x.given(1);
        due("the last given", x.check("h19", 1), 1);
        fault(x, "h20", 6, 0);
        String deep = "L(true,".repeat(39);
        due("the last around", x.check("F(P(" + "L(true,".repeat(38) + "h57" + ")".repeat(38) + ",T))", 1), 0);
        fault(x, deep + "h59", 6, 7 * 39);
        due("40 bound behind 20 given", x.check(deep + "L(true,h59)" + ")".repeat(39), 1), 0);
        fault(x, deep + "L(true,h60)", 6, 7 * 40);
        x.forget();
        fault(x, "h0", 6, 0);
        Dues.of(15, "FAULTS, the first met in reading");
        fault(x, "P(h0,?)", 6, 2);
        fault(x, "P(?,h0)", 1, 2);
        fault(x, "P(),h0)", 2, 2);
        fault(x, "h0 h0", 6, 0);
    }

    private static void letters() {
        Dues.of(15, "the capital letters told there");
        for (char c = 'A'; c <= 'Z'; c++) {
            Asker x = new Asker();
            String s = "" + c;
            if (c == 'T') {
                due("check of T", x.check(s, 1), 1);
                due("check of T", x.check(s, 0), 0);
            } else if ("LAPFSIJCX".indexOf(c) >= 0) {
                fault(x, s, 2, 1);
                fault(x, s + "T", 2, 1);
                fault(x, s + "(", 2, 2);
                fault(x, s + "()", 2, 2);
                fault(x, "T" + s, 2, 1);
            } else {
                fault(x, s, 1, 0);
                fault(x, s + "(T)", 1, 0);
                fault(x, "F(" + s, 1, 2);
                fault(x, "T" + s, 1, 1);
            }
        }
        Dues.of(15, "1 no token begins there");
        String[] none = {"?", "-", "<", "<-", "1", "0", ";", "\0", "\u00ff", "\f", "[", "abcdefg"};
        for (String s : none) {
            fault(s, 1, 0);
            fault("F( " + s, 1, 3);
            fault("L(" + s, 1, 2);
            fault("T " + s, 1, 2);
        }
    }

    private static void shapes() {
        Dues.of(15, "2 it cannot stand there; a letter with its ( , )");
        String[] texts = {
            "", " ", "T T", "T(", "T)", "T,", "(T)", ",", ")", "&", "->", "~T", "a->a", "T&T",
            "F T", "F(T", "F(T))", "F(T,T)", "S(T,T)", "I(T,T)", "J(T,T)", "X(T,T)", "F((T))",
            "A(T)", "A(T,)", "A(T,T", "A(T,T,T)", "P(T)", "P(T,T,T)", "C(T)", "C(T,T)", "C(T,T,T,T)", "C(T,T,T",
            "L(a)", "L(,T)", "L(a,)", "L(a,T,T)", "L(a T)", "L(a->,T)", "L((a,T)", "L(T,T)", "L(F(T),T)", "L(a,T", "L(a,a)", "L(a b,T)"
        };
        int[] places = {
            0, 1, 2, 1, 1, 1, 0, 0, 0, 0, 0, 0, 0, 1,
            2, 3, 4, 3, 3, 3, 3, 3, 2,
            3, 4, 5, 5, 3, 5, 3, 5, 7, 7,
            3, 2, 4, 5, 4, 5, 4, 2, 2, 5, 4, 4
        };
        for (int i = 0; i < texts.length; i++) fault(texts[i], 2, places[i]);
    }

    private static void openTerms() {
        Dues.of(15, "3 the 41st that is open, in terms also at a capital letter but T");
        String[] letters = {"F(", "S(", "I(", "J(", "X(", "L(a,", "A(T,", "P(T,", "C(T,T,"};
        for (String s : letters) {
            good(s.repeat(40) + "T" + ")".repeat(40));
            fault(s.repeat(41) + "T" + ")".repeat(41), 3, 40 * s.length());
            fault(s.repeat(40) + "T" + ")".repeat(39), 2, 40 * s.length() + 40);
        }
        String[] first = {"A(", "P(", "C("};
        String[] behind = {",T)", ",T)", ",T,T)"};
        for (int i = 0; i < 3; i++) {
            good(first[i].repeat(40) + "T" + behind[i].repeat(40));
            fault(first[i].repeat(41) + "T", 3, 80);
        }
        Dues.of(15, "3 .. (when it has been looked at and can stand there)");
        fault("F(".repeat(40) + "F", 3, 80);
        fault("F(".repeat(40) + "F?", 3, 80);
        fault("F(".repeat(40) + "T F", 2, 82);
        fault("F(".repeat(40) + "(", 2, 80);
        fault("F(".repeat(40) + "~", 2, 80);
        fault("F(".repeat(40) + "h0", 6, 80);
        fault("F(".repeat(40) + "?", 1, 80);
        fault("F(".repeat(40) + "B", 1, 80);
        Dues.of(15, "3 .. a letter till its )");
        good("P(F(T),".repeat(39) + "T" + ")".repeat(39));
        good("P(" + "F(".repeat(39) + "T" + ")".repeat(39) + "," + "S(".repeat(39) + "T" + ")".repeat(40));
        fault("P(" + "F(".repeat(39) + "T" + ")".repeat(39) + "," + "S(".repeat(40), 3, 121 + 78);
    }

    private static void openWithFormulas() {
        Dues.of(15, "3 the 41st that is open, in the formula of L");
        String open = "F(".repeat(38) + "L(";
        String close = ",T)" + ")".repeat(38);
        String[] good = {"~a", "(a)", "a->a", "a<->a", "~a&(a)|~a"};
        for (String s : good) good(open + s + close);
        fault(open + "~~a" + close, 3, 79);
        fault(open + "~(a)" + close, 3, 79);
        fault(open + "(~a)" + close, 3, 79);
        fault(open + "a->~a" + close, 3, 81);
        fault(open + "a->a->a" + close, 3, 82);
        fault(open + "(a<->a)" + close, 3, 80);
        fault("F(".repeat(39) + "L(~a", 3, 80);
        fault("F(".repeat(39) + "L((a", 3, 80);
        fault("F(".repeat(39) + "L(a->", 3, 81);
        fault("F(".repeat(39) + "L(a<->", 3, 81);
        fault("F(".repeat(39) + "L(a~", 2, 81);
        good("F(".repeat(39) + "L(a,T)" + ")".repeat(39));
        good("L(" + "~".repeat(39) + "a,T)");
        fault("L(" + "~".repeat(40) + "a,T)", 3, 41);
        good("L(" + "(".repeat(39) + "a" + ")".repeat(39) + "," + "F(".repeat(39) + "T" + ")".repeat(40));
        good("L(" + "a->".repeat(39) + "a," + "F(".repeat(39) + "T" + ")".repeat(40));
    }

    private static void roomInTerms() {
        Dues.of(15, "FAULTS: as above: 4 the 25th VARIABLE");
        Asker x = new Asker();
        due("24 variables", x.check("L(" + ALL_VARIABLES + ",T)", 1), 0);
        due("count(1)", x.count(1), 24);
        fault(x, "L(y,T)", 4, 2);
        fault(x, "L(a,L(b&y,T))", 4, 8);
        fault(x, "y", 2, 0);
        due("check of L(x,T)", x.check("L(x,T)", 1), 0);
        x.fill(2000);
        fault(x, "L(y,T)", 4, 2);
        Dues.of(15, "FAULTS: as above: 5 the NUMBER 2000");
        x = new Asker();
        x.fill(2000);
        fault(x, "L(b,T)", 5, 2);
        fault(x, "L(a|true,T)", 5, 3);
        fault(x, "L(~true,T)", 5, 2);
        fault(x, "L(a,L(true->a,T))", 5, 10);
        fault(x, "L(a<->true,T)", 5, 3);
        due("what is there", x.check("L(a&a,T)", 1), 0);
        due("place()", x.place(), -1);
        x = new Asker();
        x.fill(1999);
        due("the last one", x.check("L(b,T)", 1), 0);
        due("count(0)", x.count(0), 2000);
        fault(x, "L(c,T)", 5, 2);
        Dues.of(15, "the formula of L (its FORMULAS are made) .. with a fault they stay");
        x = new Asker();
        due("check", x.check("L(a&b,T)", 0), 0);
        due("count(0)", x.count(0), 5);
        fault(x, "L(a|b,h1)", 6, 6);
        due("count(0)", x.count(0), 6);
        due("a|b", x.read("a|b"), 5);
        fault(x, "L(c?", 1, 3);
        due("count(1)", x.count(1), 3);
        due("h0 as a formula", x.check("L(h0,h0)", 1), 0);
        due("count(1)", x.count(1), 4);
        x = new Asker();
        fault(x, "P(F(),L(z,T))", 2, 4);
        due("count(1): z is behind the fault", x.count(1), 0);
        fault(x, "L((a&)&z,T)", 2, 5);
        due("count(1): z is behind the fault", x.count(1), 1);
    }

    private static void askingMakesNone() {
        Dues.of(15, "What a TERM HAS need not be a FORMULA that was made, and none is made by asking");
        Asker x = new Asker();
        due("check", x.check("F(P(T,P(L(a,h0),L(b,h0))))", 1), 1);
        due("count(0)", x.count(0), 4);
        due("check", x.check("A(L(a->a,T),L(a,h0))", 1), 1);
        due("count(0)", x.count(0), 5);
        x = new Asker();
        x.fill(2000);
        due("check", x.check("F(P(T,P(T,P(T,L(true,h0)))))", 1), 1);
        due("check", x.check("F(P(L(true,h0),T))", 1), 0);
        due("check", x.check("F(S(P(T,P(P(T,T),T))))", 1), 0);
        due("check", x.check("S(F(S(P(T,P(P(T,T),T)))))", 1), 1);
        due("count(0)", x.count(0), 2000);
        due("the last as a goal", x.check("T", 1999), 0);
        due("check(2000)", x.check(2000), -1);
    }

    private static void textsOfTerms() {
        Dues.of(15, "THE TEXT is read as a term");
        Asker x = new Asker();
        x.text("");
        due("no text", x.check(1), -12);
        due("place()", x.place(), 0);
        x = new Asker();
        due("3000 bytes", x.check(" ".repeat(2999) + "T", 1), 1);
        x = new Asker();
        due("3000 bytes", x.check("T" + " ".repeat(2999), 1), 1);
        x = new Asker();
        fault(x, "F(T" + " ".repeat(2997), 2, 3000);
        x = new Asker();
        due("blanks between all", x.check(" L ( a , P ( h0 , T ) ) ", x.read("a->a&true")), 1);
        due("a text that is read as a formula, too", x.read("h0"), 5);
        due("is no term", x.check(5), -16);
    }

    private static void proofsAndHaving() {
        Dues.of(15, "whether it is a PROOF of a FORMULA from GIVEN: 1, 0");
        Asker x = from("a|b", "a&b", "a->b", "false", "a");
        String[] goals = {"a", "b", "a|b", "b|a", "a&b", "a->b", "true", "false"};
        String[] terms = {"h4", "F(h1)", "S(h1)", "A(h2,h4)", "A(h2,F(h1))", "I(h4)", "J(h4)", "P(h4,S(h1))", "X(h3)", "X(h4)", "T",
            "L(a,h4)", "L(a,S(h1))", "L(b,T)", "C(h0,h5,h4)", "C(h0,S(h1),h5)", "C(h1,h5,h5)", "C(I(h4),h5,h5)", "F(h0)", "A(h1,h4)",
            "A(h2,h2)", "F(P(h4,T))", "S(P(h4,T))", "A(L(a,h5),h4)", "A(L(a,h5),X(h3))", "A(X(h3),h4)", "F(X(h3))", "I(X(h3))",
            "F(I(h4))", "F(P(X(h3),h4))", "S(P(X(h3),h4))", "h3", "h0", "C(h0,X(h3),T)",
            "F(P(h3,T))", "S(P(h3,h4))", "F(P(T,h3))", "S(P(h4,h3))", "A(L(false,h4),h3)", "A(L(false,h5),h3)", "A(L(a,h3),h4)"};
        String[] due = {"10000000", "10000000", "01000000", "01000000", "01000000", "00100000", "00010000", "00001000", "11111111", "00000000", "00000010",
            "00000000", "00000100", "00000000", "10000000", "01000000", "00000000", "00000000", "00000000", "00000000",
            "00000000", "10000000", "00000010", "10000000", "10000000", "00000000", "00000000", "00110000",
            "00000000", "00000000", "00000000", "00000001", "00100000", "00000010",
            "00000001", "10000000", "00000010", "00000001", "10000000", "00000001", "00000001"};
        int[] f = new int[goals.length];
        for (int k = 0; k < goals.length; k++) f[k] = x.read(goals[k]);
        for (int i = 0; i < terms.length; i++) {
            x.text(terms[i]);
            for (int k = 0; k < f.length; k++) due("check of " + terms[i] + " for " + goals[k], x.check(f[k]), due[i].charAt(k) - '0');
        }
    }

    private static void boundWithin() {
        Dues.of(15, "L(A,t): t under one more hypothesis, A (within each letter)");
        String[] terms = {"P(L(a,h2),L(b,h2))", "P(L(a,h2),L(b,h1))", "I(L(a,h2))", "J(L(a,h2))", "X(F(A(L(false&a,h2),h1)))",
            "C(A(L(a|b,h2),h0),I(h2),J(h2))", "C(h0,I(A(L(a,h3),h2)),J(A(L(b,h3),h2)))", "C(h0,I(A(L(a,h2),h2)),J(A(L(b,h0),h2)))",
            "F(P(L(a,h2),T))", "S(P(T,L(a,h2)))", "F(P(L(a,h1),T))", "A(L(a->a,h2),L(a,h2))", "L(a,L(b,h2))", "L(a,L(b,h3))", "L(a,L(b,h1))"};
        String[] goals = {"(a->a)&(b->b)", "(a->a)&(b->b)", "(a->a)|b", "b|(a->a)", "b",
            "a|b", "a|b", "a|b",
            "a->a", "a->a", "a->a", "a->a", "a->b->a", "a->b->b", "a->b->b"};
        int[] due = {1, 0, 1, 1, 1, 1, 1, 0, 1, 1, 0, 1, 1, 1, 0};
        for (int i = 0; i < terms.length; i++) {
            Asker x = from("a|b", "false&a");
            int f = x.read(goals[i]);
            due("check of " + terms[i] + " for " + goals[i], x.check(terms[i], f), due[i]);
        }
    }

    private static int times(Asker x, int count, int kind, int other, boolean before, int f) {
        int g = f;
        for (int i = 0; i < count; i++) g = before ? x.make(kind, other, g) : x.make(kind, g, other);
        return g;
    }

    private static void accepted(Asker x, String term, int f) {
        due("check of " + term.substring(0, 8) + "..", x.check(term, f), 1);
        due("for another", x.check(0 == f ? 1 : 0), 0);
    }

    private static void proofsFortyDeep() {
        Dues.of(15, "3 the 41st: what is 40 deep is read, and asked");
        Asker x = new Asker();
        int a = x.read("a");
        accepted(x, "I(".repeat(40) + "T" + ")".repeat(40), times(x, 40, 4, a, false, 1));
        accepted(x, "J(".repeat(40) + "T" + ")".repeat(40), times(x, 40, 4, a, true, 1));
        accepted(x, "P(".repeat(40) + "T" + ",T)".repeat(40), times(x, 40, 3, 1, false, 1));
        accepted(x, "P(T,".repeat(40) + "T" + ")".repeat(40), times(x, 40, 3, 1, true, 1));
        accepted(x, "L(a,".repeat(40) + "T" + ")".repeat(40), times(x, 40, 5, a, true, 1));
        x = from("a|b", "false", "a->a", "a");
        due("X", x.check("X(".repeat(40) + "h1" + ")".repeat(40), x.read("b")), 1);
        accepted(x, "C(h0,".repeat(40) + "T" + ",T)".repeat(40), 1);
        accepted(x, "C(h0,T,".repeat(40) + "T" + ")".repeat(40), 1);
        x = from("a|b", "false", "a->a", "a");
        accepted(x, "A(h2,".repeat(40) + "h3" + ")".repeat(40), x.read("a"));
        x = new Asker();
        x.read("a|b");
        for (int i = 0; i < 20; i++) x.given(4);
        accepted(x, "L(a,".repeat(40) + "h59" + ")".repeat(40), times(x, 40, 5, 2, true, 2));
        due("C behind 20 given", x.check("C(h19,".repeat(40) + "T" + ",T)".repeat(40), 1), 1);
        Dues.of(15, "u under A, v under B: one more hypothesis, and those bound within it");
        x = from("a|b", "a->c", "b->c");
        int c = x.read("c");
        due("check", x.check("C(h0,A(L(a,A(h1,h4)),h3),A(L(b,A(h2,h4)),h3))", c), 1);
        due("check", x.check("C(h0,A(L(a,A(h1,h3)),h3),A(L(b,A(h2,h3)),h3))", c), 1);
        due("check", x.check("C(h0,A(L(true,A(h1,h4)),T),A(h2,h3))", c), 0);
        due("check", x.check("C(h0,A(h1,h3),A(L(true,A(h2,h4)),T))", c), 0);
    }

    private static void havingFortyDeep() {
        Dues.of(15, "What a TERM HAS, 40 deep");
        Asker x = new Asker();
        int a = x.read("a");
        x.given(times(x, 40, 3, 1, false, a));
        x.given(times(x, 40, 3, 1, true, a));
        x.given(times(x, 40, 5, a, true, 1));
        x.given(a);
        accepted(x, "F(".repeat(40) + "h0" + ")".repeat(40), a);
        accepted(x, "S(".repeat(40) + "h1" + ")".repeat(40), a);
        accepted(x, "A(".repeat(40) + "h2" + ",h3)".repeat(40), 1);
        accepted(x, "F(".repeat(20) + "P(".repeat(20) + "h3" + ",T)".repeat(20) + ")".repeat(20), a);
        accepted(x, "S(".repeat(20) + "P(T,".repeat(20) + "h3" + ")".repeat(40), a);
        accepted(x, "A(".repeat(20) + "L(true,".repeat(20) + "h3" + ")".repeat(20) + ",T)".repeat(20), a);
    }

    private static void checkAgain() {
        Dues.of(15, "THE TEXT is read as a term, again and again");
        Asker x = from("a");
        int a = x.read("a");
        String pairs = "T";
        for (int i = 0; i < 5; i++) pairs = "P(" + pairs + ",P(h0," + pairs + "))";
        x.text("F(P(h0,P(L(a,h0),P(" + pairs + ",L(b,P(h1,h0)))))");
        due("check without its last )", x.check(a), -12);
        due("feed", x.append(")") > 0 ? 1 : 0, 1);
        int formulas = x.count(0);
        for (int i = 0; i < 300; i++) due("check", x.check(a), 1);
        due("count(0)", x.count(0), formulas);
    }

    // ---- 16

    private static String joined(String sign, int from, int to) {
        StringBuilder s = new StringBuilder();
        for (int i = from; i < to; i++) s.append(i == from ? "" : sign).append("v").append(i);
        return s.toString();
    }

    private static void classical() {
        Dues.of(16, "-1");
        Asker x = new Asker();
        int[] none = {-1, 2, 3, 2000, MIN, MAX};
        for (int f : none) due("classical(" + f + ")", x.classical(f), -1);
        Dues.of(16, "by all assignments of 0 and 1 to its VARIABLES: none");
        due("classical(0)", x.classical(0), 0);
        due("classical(1)", x.classical(1), 1);
        String[] texts = {"true->false", "false->false", "false|true", "true&false", "~false", "~true"};
        int[] due = {0, 1, 1, 0, 1, 0};
        for (int i = 0; i < texts.length; i++) due("classical of " + texts[i], x.classical(x.read(texts[i])), due[i]);
        x.fill(2000);
        due("classical(1999)", x.classical(1999) < 0 ? -1 : 0, 0);
        due("classical(2000)", x.classical(2000), -1);
    }

    private static void classicalMany() {
        Dues.of(16, "-4 it has more than 12");
        for (int n = 11; n <= 14; n++) {
            for (int from = 0; from + n <= 24; from += 24 - n) {
                Asker x = new Asker();
                x.read(joined("&", 0, 24));
                String all = joined("&", from, from + n);
                String one = joined("|", from, from + n);
                int last = from + n - 1;
                due(n + ": always", x.classical(x.read("v" + last + "|~v" + last + "|" + one)), n > 12 ? -4 : 1);
                due(n + ": but for 0 .. 0", x.classical(x.read(one)), n > 12 ? -4 : 0);
                due(n + ": but for 1 .. 1", x.classical(x.read("~(" + all + ")")), n > 12 ? -4 : 0);
                due(n + ": but for 0 .. 0 1", x.classical(x.read(joined("|", from, last) + "|~v" + last)), n > 12 ? -4 : 0);
                due(n + ": but for 1 .. 1 0", x.classical(x.read("~(" + joined("&", from, last) + "&~v" + last + ")")), n > 12 ? -4 : 0);
            }
        }
        Asker x = new Asker();
        due("12, each often", x.classical(x.read(joined("&", 0, 12) + "->" + joined("&", 0, 12) + "&" + joined("|", 0, 12))), 1);
        due("13, of which 1 is of no weight", x.classical(x.read(joined("&", 0, 13) + "->v0")), -4);
        due("12 beside a 13th elsewhere", x.classical(x.read(joined("&", 0, 12) + "->v0")), 1);
        due("24", x.classical(x.read(joined("|", 0, 24) + "|true")), -4);
    }
}
