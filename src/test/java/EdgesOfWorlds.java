import java.util.Arrays;

/** Boundary cases of promises 17 to 22: refutations, and worlds that are made by hand. */
public final class EdgesOfWorlds {
    private static final int MIN = Integer.MIN_VALUE;
    private static final int MAX = Integer.MAX_VALUE;
    private static final String ALL_VARIABLES = "a&b&c&d&e&f&g&h&i&j&k&l&m&n&o&p&q&r&s&t&u&v&w&x";

    public static void main(String[] args) {
        refuteRefused();
        refuteTooMany();
        refuteTakesThePlace();
        refuteOfLatest();
        refuteNumbers();
        refuteWhichPremise();
        refuteDeep();
        clear();
        world();
        worldTakesOver();
        forceNone();
        forceAbove();
        forceMany();
        about();
        aboutAbove();
        holdsNone();
        holds();
        holdsMany();
        Dues.end("edges of worlds", 17, 22);
    }

    private static void due(String call, long got, long want) { Dues.due(call, got, want); }

    private static void due(String call, String got, String want) { Dues.due(call, got, want); }

    private static Asker failed(String goal, String... givens) {
        Asker x = new Asker();
        for (String g : givens) x.given(x.read(g));
        due("prove of " + goal, x.prove(x.read(goal), 2000), 0);
        return x;
    }

    /** A goal whose refutation has so many worlds: each | has two more, the last one has a child, if need be. */
    private static String goalOf(int worlds) {
        int signs = (worlds - 1) / 2;
        return "a" + "|a".repeat(signs - 1) + (worlds % 2 == 0 ? "|(((p->q)->r)->s)" : "|a");
    }

    /** World 0, and one more on each parent told. */
    private static Asker tree(String variables, int... parents) {
        Asker x = new Asker();
        x.read(variables);
        for (int p : parents) x.world(p);
        return x;
    }

    // ---- 17

    private static void refuteRefused() {
        Dues.of(17, "-3 it was none, or did not FAIL");
        Asker x = new Asker();
        due("refute()", x.refute(), -3);
        x.prove(5, 5);
        x.prove(0, -1);
        x.prove(0, 2001);
        due("refute() behind those that were refused", x.refute(), -3);
        due("prove(1, 5)", x.prove(1, 5), 1);
        due("refute() of what was PROVED", x.refute(), -3);
        due("prove(0, 0)", x.prove(0, 0), -6);
        due("refute() of what was SPENT", x.refute(), -3);
        due("prove(0, 1)", x.prove(0, 1), 0);
        due("refute()", x.refute(), 1);
        int f = x.read("a");
        for (int i = 0; i < 200; i++) f = x.make(3, f, 1);
        due("prove FULL", x.prove(f, 2000), -7);
        due("refute() of what was FULL", x.refute(), -3);
        x.prove(0, 1);
        x.prove(0, 0);
        due("refute() of what was SPENT, behind what FAILED", x.refute(), -3);
        due("count(3)", x.count(3), 1);
    }

    private static void refuteTooMany() {
        Dues.of(17, "-4 more than 60");
        for (int worlds = 57; worlds <= 64; worlds++) {
            Asker x = tree("a|b", 0, 1, 0);
            x.force(1, 1);
            String before = x.worlds();
            due("prove", x.prove(x.read(goalOf(worlds)), 2000), 0);
            due("refute() of " + worlds, x.refute(), worlds > 60 ? -4 : worlds);
            due("count(3)", x.count(3), worlds > 60 ? 4 : worlds);
            due("about(0, 2, 0)", x.about(0, 2, 0), worlds > 60 ? 4 : worlds);
            due("about(" + worlds + ", 0, 0)", x.about(worlds, 0, 0), -1);
            due("world(0)", x.world(0), worlds > 60 ? 4 : worlds < 60 ? worlds : -4);
            if (worlds > 60) {
                String after = x.worlds();
                due("the worlds are as they were", after.substring(0, after.lastIndexOf(' ')), before);
                due("refute() again", x.refute(), -4);
                due("told(3)", x.told(3), 0);
            }
        }
    }

    private static void refuteTakesThePlace() {
        Dues.of(17, "takes the place of the WORLDS: how many");
        Asker x = new Asker();
        x.given(x.read("a"));
        x.read("b");
        for (int i = 0; i < 59; i++) x.world(i);
        x.force(0, 1);
        due("prove of b", x.prove(3, 9), 0);
        due("refute()", x.refute(), 1);
        due("worlds", x.worlds(), "-1:0");
        due("about(1, 0, 0)", x.about(1, 0, 0), -1);
        due("holds(0, a)", x.holds(0, 2), 1);
        due("holds(0, b)", x.holds(0, 3), 0);
        due("world(0)", x.world(0), 1);
        due("force(1, 1)", x.force(1, 1), 1);
        due("worlds", x.worlds(), "-1:0 0:01");
        due("refute() again", x.refute(), 1);
        due("worlds", x.worlds(), "-1:0");
        due("clear()", x.clear(), 1);
        due("worlds", x.worlds(), "-1:");
        due("refute() once more", x.refute(), 1);
        due("worlds", x.worlds(), "-1:0");
    }

    private static void refuteOfLatest() {
        Dues.of(17, "The REFUTATION of the latest prove()");
        Asker x = failed("a|b", "c->a");
        x.prove(-1, 5);
        x.prove(99, 5);
        x.prove(2, 2001);
        x.forget();
        x.given(0);
        x.read("d");
        due("refute()", x.refute(), 3);
        due("worlds", x.worlds(), "-1: 0: 0:");
        due("prove(0, 5)", x.prove(0, 5), 1);
        due("refute()", x.refute(), -3);
        due("worlds", x.worlds(), "-1: 0: 0:");
        x.forget();
        due("prove(0, 5)", x.prove(0, 5), 0);
        due("the worlds wait", x.count(3), 3);
        due("refute()", x.refute(), 1);
    }

    private static void refuteNumbers() {
        Dues.of(17, "each before its children, these in order, each with all above it before the next one");
        Asker x = failed("a|b", "(p->q)->r");
        due("refute()", x.refute(), 6);
        due("worlds", x.worlds(), "-1: 0: 1:0 0: 3:0 0:0");
        due("the root HOLDS what is GIVEN", x.holds(0, x.read("(p->q)->r")), 1);
        due("and not the GOAL", x.holds(0, x.read("a|b")), 0);
        x = failed("(a->b)|(b->a)|(a->c)");
        due("refute()", x.refute(), 5);
        due("worlds", x.worlds(), "-1: 0: 1:0 1:1 0:0");
        x = failed("x", "(a->b)->c", "(d->e)->f");
        // Each first premise has the other one in LEFT, too, and so has a child of its own.
        due("refute()", x.refute(), 5);
        due("worlds", x.worlds(), "-1: 0:0 1:03 0:3 3:03");
        due("the root HOLDS what is GIVEN", x.holds(0, x.read("((a->b)->c)&((d->e)->f)")), 1);
        due("and not the GOAL", x.holds(0, x.read("x")), 0);
    }

    private static void refuteWhichPremise() {
        Dues.of(17, "4, 5, 6: that of the premise that FAILED (the first)");
        String[][] rows = {
            {"a->b", "-1:0"}, {"a&b", "-1:"}, {"b", "-1:0", "a"}, {"c", "-1:01", "a&b"}, {"c", "-1:0", "a|b"},
            {"a", "-1:1", "a|b"}, {"b", "-1:0", "true->a"}, {"b", "-1:", "false->a"}, {"c", "-1:01", "a", "a->b"},
            {"c->d", "-1:2", "a->b", "c"}
        };
        for (int i = 0; i < rows.length; i++) {
            String[] givens = Arrays.copyOfRange(rows[i], 2, rows[i].length);
            Asker x = failed(rows[i][0], givens);
            due("refute() for " + rows[i][0], x.refute(), 1);
            due("worlds for " + rows[i][0], x.worlds(), rows[i][1]);
        }
        Asker x = failed("a&b", "a");
        due("refute()", x.refute(), 1);
        due("worlds", x.worlds(), "-1:0");
        Dues.of(17, "8: of the second premise, if the first was PROVED");
        x = failed("d", "(a->b)->c", "b");
        due("refute()", x.refute(), 1);
        due("worlds", x.worlds(), "-1:12");
        Dues.of(17, "Else (9): a world in which the VARIABLES of LEFT are FORCED");
        x = failed("((a->b)->a)->a");
        due("refute()", x.refute(), 2);
        due("worlds", x.worlds(), "-1: 0:0");
        x = failed("a");
        due("refute()", x.refute(), 1);
        due("worlds", x.worlds(), "-1:");
    }

    /** The refutation of a goal that stands behind so many b -> (which come to be forced). */
    private static Asker behindArrows(Asker x, String goal, int arrows) {
        int f = x.read(goal);
        int b = x.read("b");
        for (int i = 0; i < arrows; i++) f = x.make(5, b, f);
        due("prove of " + goal + " behind " + arrows, x.prove(f, 2000), 0);
        due("told(2)", x.told(2), 200);
        return x;
    }

    private static void refuteDeep() {
        Dues.of(17, "The REFUTATION of a SEQUENT that FAILED: as deep as can be");
        Asker x = behindArrows(new Asker(), "a", 199);
        due("refute()", x.refute(), 1);
        due("worlds", x.worlds(), "-1:1");
        x = behindArrows(new Asker(), "a|c", 198);
        due("refute()", x.refute(), 3);
        due("worlds", x.worlds(), "-1:2 0:2 0:2");
        x = behindArrows(new Asker(), "a|(c|d)", 197);
        due("refute()", x.refute(), 5);
        due("worlds", x.worlds(), "-1:3 0:3 0:3 2:3 2:3");
        x = new Asker();
        x.given(x.read("(a->c)->d"));
        behindArrows(x, "a", 198);
        due("refute()", x.refute(), 2);
        due("worlds", x.worlds(), "-1:3 0:03");
    }

    // ---- 18

    private static void clear() {
        Dues.of(18, "World 0 alone, nothing FORCED: how many there were");
        Asker x = new Asker();
        due("clear()", x.clear(), 1);
        due("clear()", x.clear(), 1);
        x.read("a|b");
        x.force(0, 0);
        x.force(0, 1);
        due("clear()", x.clear(), 1);
        due("worlds", x.worlds(), "-1:");
        for (int i = 0; i < 59; i++) x.world(i);
        x.force(0, 1);
        due("clear()", x.clear(), 60);
        due("worlds", x.worlds(), "-1:");
        due("about(1, 0, 0)", x.about(1, 0, 0), -1);
        due("about(0, 2, 0)", x.about(0, 2, 0), 1);
        due("world(1)", x.world(1), -1);
        due("world(0)", x.world(0), 1);
        due("world(0)", x.world(0), 2);
        due("worlds", x.worlds(), "-1: 0: 0:");
        due("the formulas stay", x.count(0), 5);
    }

    // ---- 19

    private static void world() {
        Dues.of(19, "-1 there is no such parent");
        Asker x = new Asker();
        int[] none = {-1, 1, 2, 60, MIN, MAX};
        for (int p : none) due("world(" + p + ")", x.world(p), -1);
        due("count(3)", x.count(3), 1);
        due("world(0)", x.world(0), 1);
        due("world(2)", x.world(2), -1);
        due("world(1)", x.world(1), 2);
        Dues.of(19, "-4 (60 at most)");
        for (int i = 3; i < 60; i++) due("world(0)", x.world(0), i);
        for (int p = 0; p < 60; p++) due("world(" + p + ")", x.world(p), -4);
        int[] others = {-1, 60, 61, MIN, MAX};
        for (int p : others) due("world(" + p + ")", x.world(p), -1);
        due("count(3)", x.count(3), 60);
        due("about(0, 2, 0)", x.about(0, 2, 0), 60);
        due("clear()", x.clear(), 60);
        due("world(0)", x.world(0), 1);
    }

    private static void worldTakesOver() {
        Dues.of(19, "in which is FORCED what is there (in its parent)");
        Asker x = tree("a|b", 0);
        x.force(1, 1);
        due("world(1)", x.world(1), 2);
        due("world(0)", x.world(0), 3);
        due("worlds", x.worlds(), "-1: 0:1 1:1 0:");
        x.force(0, 0);
        due("world(2)", x.world(2), 4);
        due("worlds", x.worlds(), "-1:0 0:01 1:01 0:0 2:01");
        x.clear();
        due("world(0)", x.world(0), 1);
        due("worlds", x.worlds(), "-1: 0:");
        x = tree(ALL_VARIABLES);
        for (int v = 0; v < 24; v++) x.force(0, v);
        due("world(0)", x.world(0), 1);
        for (int v = 0; v < 24; v++) due("about(1, 1, " + v + ")", x.about(1, 1, v), 1);
    }

    // ---- 20

    private static void forceNone() {
        Dues.of(20, "-1 there is no such world, or VARIABLE");
        Asker x = new Asker();
        due("force(0, 0)", x.force(0, 0), -1);
        x.read("a|b");
        x.world(0);
        int[] worlds = {-1, 2, 3, 59, 60, MIN, MAX};
        int[] variables = {-1, 2, 3, 23, 24, 31, 32, 33, 64, MIN, MAX};
        for (int w : worlds) due("force(" + w + ", 0)", x.force(w, 0), -1);
        for (int v : variables) {
            due("force(0, " + v + ")", x.force(0, v), -1);
            due("force(1, " + v + ")", x.force(1, v), -1);
            due("force(9, " + v + ")", x.force(9, v), -1);
        }
        due("worlds", x.worlds(), "-1: 0:");
        due("force(1, 1)", x.force(1, 1), 1);
        x.clear();
        due("force(1, 1)", x.force(1, 1), -1);
    }

    private static void forceAbove() {
        Dues.of(20, "in a world, and ABOVE it: in how many it was not yet");
        Asker x = tree("a|b", 0, 1, 0, 1, 4);
        due("force(4, 0)", x.force(4, 0), 2);
        due("worlds", x.worlds(), "-1: 0: 1: 0: 1:0 4:0");
        due("force(4, 0)", x.force(4, 0), 0);
        due("force(5, 0)", x.force(5, 0), 0);
        due("force(1, 0)", x.force(1, 0), 2);
        due("worlds", x.worlds(), "-1: 0:0 1:0 0: 1:0 4:0");
        due("force(3, 1)", x.force(3, 1), 1);
        due("force(0, 1)", x.force(0, 1), 5);
        due("force(0, 0)", x.force(0, 0), 2);
        due("force(0, 0)", x.force(0, 0), 0);
        due("worlds", x.worlds(), "-1:01 0:01 1:01 0:01 1:01 4:01");
        due("a VARIABLE that is made later", x.read("c"), 5);
        due("worlds", x.worlds(), "-1:01 0:01 1:01 0:01 1:01 4:01");
        due("force(2, 2)", x.force(2, 2), 1);
    }

    private static void forceMany() {
        Dues.of(20, "in how many it was not yet: the most");
        Asker x = tree(ALL_VARIABLES);
        for (int i = 0; i < 59; i++) x.world(i);
        due("force(59, 23)", x.force(59, 23), 1);
        due("force(30, 23)", x.force(30, 23), 29);
        due("force(0, 23)", x.force(0, 23), 30);
        due("force(0, 0)", x.force(0, 0), 60);
        due("force(0, 24)", x.force(0, 24), -1);
        due("force(60, 0)", x.force(60, 0), -1);
        for (int v = 0; v < 24; v++) due("about(59, 1, " + v + ")", x.about(59, 1, v), v == 0 || v == 23 ? 1 : 0);
    }

    // ---- 21

    private static void about() {
        Asker x = tree("a", 0, 1);
        int[] none = {-1, 3, 4, 60, MIN, MAX};
        int[] outside = {-1, 3, 4, MIN, MAX};
        Dues.of(21, "-1 there is no world");
        for (int w : none) {
            for (int what = -1; what < 4; what++) due("about(" + w + ", " + what + ", 0)", x.about(w, what, 0), -1);
        }
        Dues.of(21, "-1 .. (or, for 1, no VARIABLE)");
        int[] variables = {-1, 1, 2, 24, 32, MIN, MAX};
        for (int v : variables) {
            due("about(1, 1, " + v + ")", x.about(1, 1, v), -1);
            due("about(3, 1, " + v + ")", x.about(3, 1, v), -1);
            due("about(1, 0, " + v + ")", x.about(1, 0, v), 0);
            due("about(1, 2, " + v + ")", x.about(1, 2, v), 2);
        }
        Dues.of(21, "-2 no such what");
        for (int what : outside) {
            due("about(0, " + what + ", 0)", x.about(0, what, 0), -2);
            due("about(2, " + what + ", 9)", x.about(2, what, 9), -2);
        }
        Dues.of(21, "what = 0 its parent (-1 of world 0)");
        due("about(0, 0, 0)", x.about(0, 0, 0), -1);
        due("about(1, 0, 0)", x.about(1, 0, 0), 0);
        due("about(2, 0, 0)", x.about(2, 0, 0), 1);
        Dues.of(21, "1 whether a VARIABLE v is FORCED there");
        due("about(1, 1, 0)", x.about(1, 1, 0), 0);
        x.force(1, 0);
        due("about(0, 1, 0)", x.about(0, 1, 0), 0);
        due("about(1, 1, 0)", x.about(1, 1, 0), 1);
        due("about(2, 1, 0)", x.about(2, 1, 0), 1);
    }

    private static void aboutAbove() {
        Dues.of(21, "2 how many worlds are ABOVE it");
        due("of a new object", new Asker().about(0, 2, 0), 1);
        Asker chain = new Asker();
        Asker flat = new Asker();
        for (int i = 0; i < 59; i++) {
            chain.world(i);
            flat.world(0);
        }
        for (int w = 0; w < 60; w++) {
            due("in a chain, " + w, chain.about(w, 2, 0), 60 - w);
            due("in a flat one, " + w, flat.about(w, 2, 0), w == 0 ? 60 : 1);
            due("in a chain, parent of " + w, chain.about(w, 0, 0), w - 1);
            due("in a flat one, parent of " + w, flat.about(w, 0, 0), w == 0 ? -1 : 0);
        }
    }

    // ---- 22

    private static void holdsNone() {
        Dues.of(22, "-1 there is no such world, or FORMULA");
        Asker x = tree("a", 0);
        int[] worlds = {-1, 2, 3, 59, 60, 63, 64, MIN, MAX};
        int[] formulas = {-1, 3, 4, 1999, 2000, MIN, MAX};
        for (int w : worlds) due("holds(" + w + ", 1)", x.holds(w, 1), -1);
        for (int f : formulas) {
            due("holds(0, " + f + ")", x.holds(0, f), -1);
            due("holds(1, " + f + ")", x.holds(1, f), -1);
            due("holds(2, " + f + ")", x.holds(2, f), -1);
        }
        x.clear();
        due("holds(1, 1)", x.holds(1, 1), -1);
        x = new Asker();
        x.fill(2000);
        due("holds(0, 1999)", x.holds(0, 1999) < 0 ? -1 : 0, 0);
        due("holds(0, 2000)", x.holds(0, 2000), -1);
    }

    private static void holds() {
        Dues.of(22, "A world HOLDS: true, not false; ..; A -> B if each world ABOVE it that HOLDS A HOLDS B");
        Asker x = tree("a|b", 0, 0, 1);
        x.force(1, 0);
        x.force(2, 1);
        x.force(3, 1);
        String[] texts = {"true", "false", "a", "b", "a&b", "a|b", "~a", "~b", "a|~a", "~~a", "~~b", "~~(a|b)", "a->b", "b->a", "a->~b",
            "true->a", "false->a", "a->true", "~false", "~true", "(a->b)->b", "((a->b)->a)->a", "a->a"};
        String[] due = {"1111", "0000", "0101", "0011", "0001", "0111", "0010", "0000", "0111", "0101", "1111", "1111", "0011", "0101", "0010",
            "0101", "1111", "1111", "1111", "0000", "1111", "1111", "1111"};
        for (int i = 0; i < texts.length; i++) {
            int f = x.read(texts[i]);
            for (int w = 0; w < 4; w++) due("holds(" + w + ", " + texts[i] + ")", x.holds(w, f), due[i].charAt(w) - '0');
        }
        x = tree("a|b", 0);
        x.force(1, 0);
        int peirce = x.read("((a->b)->a)->a");
        due("holds(0, ((a->b)->a)->a)", x.holds(0, peirce), 0);
        due("holds(1, ((a->b)->a)->a)", x.holds(1, peirce), 1);
    }

    private static void holdsMany() {
        Dues.of(22, "each world ABOVE it, of 60");
        Asker x = tree("a|b");
        for (int i = 0; i < 59; i++) x.world(i);
        x.force(59, 0);
        int not = x.read("~a");
        int notNot = x.read("~~a");
        int to = x.read("a->b");
        int all = x.read("(a->b)->b");
        for (int w = 0; w < 60; w++) {
            due("holds(" + w + ", a)", x.holds(w, 2), w == 59 ? 1 : 0);
            due("holds(" + w + ", ~a)", x.holds(w, not), 0);
            due("holds(" + w + ", ~~a)", x.holds(w, notNot), 1);
        }
        due("holds(0, a->b)", x.holds(0, to), 0);
        due("holds(59, a->b)", x.holds(59, to), 0);
        due("holds(0, (a->b)->b)", x.holds(0, all), 1);
        x.force(59, 1);
        due("holds(0, a->b)", x.holds(0, to), 1);
        due("holds(0, (a->b)->b)", x.holds(0, all), 0);
        due("holds(59, (a->b)->b)", x.holds(59, all), 1);
        x.clear();
        due("worlds that were", x.holds(0, not), 1);
        due("worlds that were", x.holds(0, to), 1);
    }
}
