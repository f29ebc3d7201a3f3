/** Boundary cases of promises 1 to 9: what is new, texts and their faults, formulas, and what is written. */
public final class EdgesOfTexts {
    private static final int MIN = Integer.MIN_VALUE;
    private static final int MAX = Integer.MAX_VALUE;
    private static final String BLANKS = "\t\n\r ";
    private static final String ALL_VARIABLES = "a&b&c&d&e&f&g&h&i&j&k&l&m&n&o&p&q&r&s&t&u&v&w&x";

    public static void main(String[] args) {
        newObject();
        newObjectBesideOthers();
        callsAtMost();
        feedBytes();
        feedOutside();
        feedFull();
        noToken();
        noTokenOfSigns();
        nameTooLong();
        cannotStand();
        textEnd();
        openByEach();
        openTogether();
        openWhereItCannotStand();
        openTillClosed();
        variableTooMany();
        variableAheadOfFormula();
        formulaTooMany();
        formulaTooManyBothWays();
        formulaTooManyWhere();
        madeTillFault();
        oneOfEachKind();
        place();
        count();
        formula();
        make();
        makeFull();
        write();
        octet();
        Dues.end("edges of texts", 1, 9);
    }

    private static void due(String call, long got, long want) { Dues.due(call, got, want); }

    private static void due(String call, String got, String want) { Dues.due(call, got, want); }

    private static String shown(String text) {
        String s = text.length() > 40 ? text.substring(0, 20) + ".." + text.substring(text.length() - 18) : text;
        StringBuilder t = new StringBuilder();
        for (char c : s.toCharArray()) t.append(c >= ' ' && c < 127 ? "" + c : "<" + (int) c + ">");
        return t.toString();
    }

    /** On a new object the text has this fault at this place. */
    private static void fault(String text, int number, int place) { fault(new Asker(), text, number, place); }

    private static void fault(Asker x, String text, int number, int place) {
        due("read of " + shown(text), x.read(text), -10 - number);
        due("place in " + shown(text), x.place(), place);
    }

    /** On a new object the text is read, and written so. */
    private static void good(String text, String written) {
        Asker x = new Asker();
        int f = x.read(text);
        due("place in " + shown(text), x.place(), -1);
        due("read and written " + shown(text), x.page(x.write(f)), written);
    }

    private static void good(String text) {
        Asker x = new Asker();
        due("read of " + shown(text), x.read(text) >= 0 ? 1 : 0, 1);
        due("place in " + shown(text), x.place(), -1);
    }

    private static Asker full(int formulas) {
        Asker x = new Asker();
        due("count(0)", x.fill(formulas), formulas);
        return x;
    }

    // ---- 1

    private static void newObject() {
        Dues.of(1, "No text");
        asNew(new Asker());
        Asker x = new Asker();
        due("feed(97, 1)", x.feed('a', 1), 1);
        due("check(0) of a", x.check(0), -12);
        Dues.of(1, "FORMULAS 0 and 1");
        for (int f = 0; f < 2; f++) {
            due("formula(" + f + ", 0)", x.formula(f, 0), f);
            due("formula(" + f + ", 1)", x.formula(f, 1), 0);
            due("formula(" + f + ", 2)", x.formula(f, 2), 0);
        }
        due("formula(2, 0)", x.formula(2, 0), -1);
        due("write(0)", x.page(x.write(0)), "false");
        due("write(1)", x.page(x.write(1)), "true");
        Dues.of(1, "nothing GIVEN");
        due("forget()", x.forget(), 0);
        due("check of h0", x.check("h0", 0), -16);
        Dues.of(1, "world 0 alone");
        due("clear()", x.clear(), 1);
    }

    private static void asNew(Asker x) {
        due("read()", x.read(), -12);
        due("place()", x.place(), 0);
        int[] counts = {2, 0, 0, 1};
        for (int what = 0; what < 4; what++) due("count(" + what + ")", x.count(what), counts[what]);
        due("formula(2, 0)", x.formula(2, 0), -1);
        due("octet(0)", x.octet(0), -1);
        due("told(3)", x.told(3), -3);
        due("proof()", x.proof(), -3);
        due("refute()", x.refute(), -3);
        due("about(0, 0, 0)", x.about(0, 0, 0), -1);
        due("about(0, 1, 0)", x.about(0, 1, 0), -1);
        due("about(0, 2, 0)", x.about(0, 2, 0), 1);
        due("about(1, 0, 0)", x.about(1, 0, 0), -1);
        due("holds(1, 1)", x.holds(1, 1), -1);
        due("force(0, 0)", x.force(0, 0), -1);
    }

    private static void newObjectBesideOthers() {
        Dues.of(1, "A new object");
        Asker before = new Asker();
        Asker used = new Asker();
        used.read("a&b|c");
        used.given(2);
        used.prove(2, 9);
        used.write(6);
        used.world(0);
        used.force(1, 2);
        used.text("L(a,?");
        used.check(1);
        asNew(before);
        asNew(new Asker());
        due("count(0) of the used one", used.count(0), 7);
        due("place() of the used one", used.place(), 4);
    }

    private static void callsAtMost() {
        Dues.of(1, "An object is used for at most 512 calls");
        Asker x = new Asker();
        int f = x.read("a|b->b|a");
        for (int i = 0; x.callsLeft() > 9; i++) {
            due("prove", x.prove(f, i % 10), i % 10 < 7 ? -6 : 1);
            due("given", x.given(1), 1);
            due("world(0)", x.world(0), 1);
            due("check(1)", x.check(1), -12);
            due("forget()", x.forget(), 1);
            due("clear()", x.clear(), 2);
        }
        due("prove", x.prove(f, 7), 1);
        while (x.callsLeft() > 2) due("count(0)", x.count(0), 7);
        due("the 511th: proof()", x.proof(), 26);
        due("the 512th: octet(25)", x.octet(25), ')');
    }

    // ---- 2

    private static void feedBytes() {
        Dues.of(2, "The n lowest bytes of v, the highest first");
        String[] texts = {"a", "ab", "abc", "abcd", "abcde", "abcdef", "abc|def", "abcd&efg"};
        for (int n = 1; n <= 8; n++) {
            Asker x = new Asker();
            String s = texts[n - 1];
            long v = n == 8 ? 0L : -1L << (8 * n);
            for (int i = 0; i < n; i++) v |= (long) s.charAt(i) << (8 * (n - 1 - i));
            due("feed(.., " + n + ")", x.feed(v, n), n);
            int f = x.read();
            due("read and written " + s, x.page(x.write(f)), n < 7 ? s : "(" + s + ")");
        }
        Asker x = new Asker();
        due("feed(-1, 8)", x.feed(-1L, 8), 8);
        due("read()", x.read(), -11);
        due("place()", x.place(), 0);
        x = new Asker();
        due("feed of a byte above 127 behind 7 others", x.feed(0x61202020202020e1L, 8), 8);
        due("read()", x.read(), -11);
        due("place()", x.place(), 7);
        Dues.of(2, "come behind THE TEXT: how many it has");
        x = new Asker();
        due("feed(a, 1)", x.feed('a', 1), 1);
        due("feed(->, 2)", x.feed(0x2d3eL, 2), 3);
        due("feed(b, 1)", x.feed('b', 1), 4);
        due("read()", x.read(), 4);
        due("feed(1, 1)", x.feed('1', 1), 5);
        due("read()", x.read(), 6);
        due("the name goes on", x.page(x.write(6)), "(a->b1)");
        Dues.of(2, "with n = 0 it is empty: 0");
        due("feed(97, 0)", x.feed('a', 0), 0);
        due("read()", x.read(), -12);
        due("place()", x.place(), 0);
        due("feed(-1, 0)", x.feed(-1L, 0), 0);
        due("feed(a, 1)", x.feed('a', 1), 1);
        due("read()", x.read(), 2);
    }

    private static void feedOutside() {
        Dues.of(2, "-2 n is not 0 .. 8");
        Asker x = new Asker();
        x.text("ab");
        int[] outside = {-1, 9, 10, 16, 64, 256, 257, -8, MIN, MAX, MIN + 1};
        for (int n : outside) due("feed(.., " + n + ")", x.feed(0x6161616161616161L, n), -2);
        due("feed(c, 1)", x.feed('c', 1), 3);
        due("written", x.page(x.write(x.read())), "abc");
    }

    private static void feedFull() {
        Dues.of(2, "-4 (at most 3000 bytes)");
        Asker x = new Asker();
        x.text(" ".repeat(2992));
        due("feed(.., 1)", x.feed(' ', 1), 2993);
        due("feed of 8 to 2993", x.feed(0x6161616161616161L, 8), -4);
        due("read()", x.read(), -12);
        due("none of the 8 came", x.place(), 2993);
        due("feed of 7 to 2993", x.feed(0x20202020202061L, 7), 3000);
        due("read()", x.read(), 2);
        due("what was there stays", x.count(0), 3);
        for (int n = 1; n <= 8; n++) due("feed of " + n + " to 3000", x.feed(0x6161616161616161L, n), -4);
        due("feed(.., 9) to 3000", x.feed(0L, 9), -2);
        due("feed(.., -1) to 3000", x.feed(0L, -1), -2);
        due("read()", x.read(), 2);
        due("feed(.., 0) to 3000", x.feed(0L, 0), 0);
        due("feed(b, 1)", x.feed('b', 1), 1);
        due("read()", x.read(), 3);
        x = new Asker();
        x.text(" ".repeat(2992));
        due("feed of 8 to 2992", x.feed(0x2020202020202061L, 8), 3000);
        due("read()", x.read(), 2);
        x = new Asker();
        x.text(" ".repeat(2999));
        due("feed of 2 to 2999", x.feed(0x6161L, 2), -4);
        due("feed of 1 to 2999", x.feed('?', 1), 3000);
        due("read()", x.read(), -11);
        due("the last place", x.place(), 2999);
    }

    // ---- 3

    private static void noToken() {
        Dues.of(3, "FAULT 1 no token begins there");
        for (int b = 0; b < 256; b++) {
            String s = "" + (char) b;
            if (BLANKS.indexOf(b) >= 0) {
                fault(s, 2, 1);
                good("a" + s, "a");
                good(s + "a", "a");
            } else if (b >= 'a' && b <= 'z') {
                good(s, s);
                fault("q " + s, 2, 2);
            } else if (s.equals("(") || s.equals("~")) {
                fault(s, 2, 1);
                fault("a " + s, 2, 2);
            } else if (s.equals(")") || s.equals("&") || s.equals("|")) {
                fault(s, 2, 0);
            } else {
                fault(s, 1, 0);
                fault("(a & " + s, 1, 5);
                if (b < '0' || b > '9') fault("a" + s, 1, 1);
            }
        }
    }

    private static void noTokenOfSigns() {
        Dues.of(3, "FAULT 1 no token begins there: a part of -> and <->");
        String[] parts = {"-", "<", "<-", "- >", "< ->", "<- >", "-a", "<a", "<-a", "--", "<>", "<--", "<<->", "->-"};
        for (int i = 0; i < parts.length - 1; i++) {
            fault("a" + parts[i], 1, 1);
            fault(parts[i], 1, 0);
        }
        fault("a->-", 1, 3);
        fault("a<->-", 1, 4);
        fault("a<->>b", 1, 4);
        fault("a->>b", 1, 3);
        fault("a" + " ".repeat(2998) + "-", 1, 2999);
        fault("a" + " ".repeat(2997) + "<-", 1, 2998);
        good("a<->b", "((a->b)&(b->a))");
        good("a->b", "(a->b)");
    }

    private static void nameTooLong() {
        Dues.of(3, "FAULT 1 a NAME that is too long, too (6 signs at most)");
        String[] six = {"abcdef", "a12345", "zzzzz9", "false1", "true12", "truely"};
        for (String s : six) {
            good(s, s);
            good("(" + s + ")", s);
            good(s + "&" + s, "(" + s + "&" + s + ")");
            fault(s + "g", 1, 0);
            fault(s + "0", 1, 0);
            fault("a & " + s + "0", 1, 4);
            fault(s + " 0", 1, 7);
            fault(s + "T", 1, 6);
            fault(s + "(", 2, 6);
        }
        fault("truefalse", 1, 0);
        fault("falsetrue & a", 1, 0);
        fault("a".repeat(3000), 1, 0);
        fault(" " + "a".repeat(2999), 1, 1);
        Dues.of(3, "TOKENS, as long as can be; true and false are WORDS");
        good("true", "true");
        good("false", "false");
        good("tru", "tru");
        good("truee", "truee");
        good("fals", "fals");
        good("true0", "true0");
        Asker x = new Asker();
        x.read("true&false");
        due("words are no variables", x.count(1), 0);
        fault("true false", 2, 5);
    }

    private static void cannotStand() {
        Dues.of(3, "FAULT 2 it cannot stand there");
        String[] texts = {
            "a b", "a(", "a (b)", "a~", "a~b", "a true", "()", ")", "a)", "(a))", "(a b)", "&a", "|a", "->a", "<->a",
            "a&&b", "a||b", "a&|b", "a->->b", "a<-><->b", "a<->b<->c", "(a<->b<->c)", "a<->b->c<->d", "~)", "~&a",
            "~->a", "a&->b", "a|)", "true(", "(a)(b)", "(a)b", "~a b", "a&b c", "a|b~c", "a->b(", "(a->b c)"
        };
        int[] places = {
            2, 1, 2, 1, 1, 2, 1, 0, 1, 3, 3, 0, 0, 0, 0,
            2, 2, 2, 3, 4, 5, 6, 8, 1, 1,
            1, 2, 2, 4, 3, 3, 3, 4, 3, 4, 6
        };
        for (int i = 0; i < texts.length; i++) fault(texts[i], 2, places[i]);
        Dues.of(3, "FAULTS, the first met in reading");
        fault("a b ?", 2, 2);
        fault("a ? b b", 1, 2);
        fault(") abcdefg", 2, 0);
        fault("(a&)" + "(".repeat(50), 2, 3);
    }

    private static void textEnd() {
        Dues.of(3, "the text's end stands at its length");
        fault("", 2, 0);
        fault(" ", 2, 1);
        fault("\r\n\t ", 2, 4);
        fault(" ".repeat(3000), 2, 3000);
        String[] texts = {"(", "~", "a&", "a|", "a->", "a<->", "(a", "(a)&(b", "a & (b -> ~"};
        for (String s : texts) {
            fault(s, 2, s.length());
            fault(s + "  ", 2, s.length() + 2);
        }
        fault("a" + " ".repeat(2998) + "&", 2, 3000);
    }

    private static void openByEach() {
        Dues.of(3, "FAULT 3 the 41st that is open, at a ( of a formula, ~ -> <->");
        good("(".repeat(40) + "a" + ")".repeat(40));
        fault("(".repeat(41) + "a" + ")".repeat(41), 3, 40);
        good("~".repeat(40) + "a");
        fault("~".repeat(41) + "a", 3, 40);
        good("a->".repeat(40) + "a");
        fault("a->".repeat(41) + "a", 3, 121);
        good("(a<->".repeat(20) + "a" + ")".repeat(20));
        fault("(a<->".repeat(20) + "(a)" + ")".repeat(20), 3, 100);
        good("~".repeat(39) + "(a)");
        fault("~".repeat(40) + "(a)", 3, 40);
        good("(".repeat(39) + "a<->a" + ")".repeat(39));
        fault("(".repeat(40) + "a<->a" + ")".repeat(40), 3, 41);
        good("(".repeat(39) + "a -> a" + ")".repeat(39));
        fault("(".repeat(40) + "a -> a" + ")".repeat(40), 3, 42);
        good("(".repeat(39) + "~a" + ")".repeat(39));
        fault("(".repeat(40) + "~a" + ")".repeat(40), 3, 40);
    }

    private static void openTogether() {
        Dues.of(3, "FAULT 3 the 41st that is open, of all together");
        String open = "~(a->".repeat(13);
        String close = ")".repeat(13);
        good(open + "a" + close);
        good(open + "~a" + close);
        good(open + "(a)" + close);
        good(open + "a->a" + close);
        fault(open + "~~a" + close, 3, 66);
        fault(open + "~(a)" + close, 3, 66);
        fault(open + "((a))" + close, 3, 66);
        fault(open + "(~a)" + close, 3, 66);
        fault(open + "(a->a)" + close, 3, 67);
        fault(open + "(a<->a)" + close, 3, 67);
        fault(open + "a->a->a" + close, 3, 69);
        fault(open + "a->~a" + close, 3, 68);
        // At <-> the last of the arrows has ended, so that two more may be open behind it.
        good(open + "a<->~a" + close);
        good(open + "a<->a->a" + close);
        fault(open + "a<->~~a" + close, 3, 70);
        fault(open + "a<->a->~a" + close, 3, 72);
    }

    private static void openWhereItCannotStand() {
        Dues.of(3, "FAULT 3 .. (when it has been looked at and can stand there)");
        String open = "(".repeat(40);
        fault(open + "a(", 2, 41);
        fault(open + "a~", 2, 41);
        fault(open + "->", 2, 40);
        fault(open + "<->", 2, 40);
        fault(open + "a&->", 2, 42);
        fault(open + ")", 2, 40);
        fault(open + "?", 1, 40);
        fault(open + "-", 1, 40);
        fault(open + "a-", 1, 41);
        fault(open, 2, 40);
        fault("(".repeat(39) + "a<->a<->a", 2, 44);
        fault("(".repeat(39) + "a<->a->a", 3, 44);
        fault("~".repeat(40) + "->a", 2, 40);
        fault("(".repeat(41), 3, 40);
        fault("(".repeat(40) + "(?", 3, 40);
    }

    private static void openTillClosed() {
        Dues.of(3, "a ( till its ), ~ till its not, -> and <-> till the imp behind them have ended");
        String round = "(".repeat(40) + "a" + ")".repeat(40);
        good(round + "&" + round + "|" + round + "->a");
        good("~".repeat(40) + "a&" + "~".repeat(40) + "a|" + "~".repeat(40) + "a->a");
        good("~".repeat(40) + "a->" + "~".repeat(39) + "a");
        fault("~".repeat(40) + "a->" + "~".repeat(40) + "a", 3, 82);
        good("(" + "a->".repeat(39) + "a)->" + "a->".repeat(39) + "a");
        good("a->".repeat(40) + "a<->" + "a->".repeat(39) + "a");
        fault("a->".repeat(40) + "a<->" + "a->".repeat(40) + "a", 3, 242);
        good("(a<->a)&".repeat(60) + "a");
        good("(a->a)&".repeat(60) + "a");
        good("(~a)&".repeat(60) + "a");
        good("~(a)|".repeat(60) + "a");
        fault("(a)&".repeat(41) + "(".repeat(41), 3, 204);
    }

    private static void variableTooMany() {
        Dues.of(3, "FAULT 4 at a NAME: the 25th VARIABLE");
        Asker x = new Asker();
        due("24 variables", x.read(ALL_VARIABLES), 48);
        due("count(1)", x.count(1), 24);
        fault(x, "y", 4, 0);
        fault(x, " a & (x | y) ?", 4, 10);
        fault(x, "xx", 4, 0);
        due("count(1)", x.count(1), 24);
        due("the first again", x.read("a"), 2);
        due("the last again", x.read("x"), 47);
        due("a word", x.read("true"), 1);
        due("count(0)", x.count(0), 49);
        x = new Asker();
        due("25 in one text", x.read(ALL_VARIABLES + "&y&z"), -14);
        due("place()", x.place(), 48);
        due("count(1)", x.count(1), 24);
        due("count(0)", x.count(0), 49);
    }

    private static void variableAheadOfFormula() {
        Dues.of(3, "5 .. (a NAME, behind 4 ..)");
        Asker x = new Asker();
        x.read(ALL_VARIABLES);
        due("count(0)", x.fill(2000), 2000);
        fault(x, "y", 4, 0);
        fault(x, "a|y", 4, 2);
        x = new Asker();
        x.read(ALL_VARIABLES.substring(0, 45));
        due("count(0)", x.fill(2000), 2000);
        due("count(1)", x.count(1), 23);
        fault(x, "y", 5, 0);
        due("count(1)", x.count(1), 23);
        due("count(0)", x.count(0), 2000);
        due("a known one", x.read("w"), 45);
    }

    private static void formulaTooMany() {
        Dues.of(3, "FAULT 5 at the token by which a FORMULA with the NUMBER 2000 would be made");
        String[] texts = {"b", "a & true", "a | true", "a -> true", "~ a", "~true", "(true->a)"};
        int[] places = {0, 2, 2, 2, 0, 0, 5};
        for (int i = 0; i < texts.length; i++) {
            Asker x = full(1999);
            due("read of " + texts[i], x.read(texts[i]), 1999);
            due("again", x.read(texts[i]), 1999);
            due("count(0)", x.count(0), 2000);
            x = full(2000);
            fault(x, texts[i], 5, places[i]);
            due("count(0)", x.count(0), 2000);
            due("what is there", x.read("a & a"), 3);
            due("place()", x.place(), -1);
        }
    }

    private static void formulaTooManyBothWays() {
        Dues.of(3, "FAULT 5 .. <-> (A <-> B is (A -> B) & (B -> A), made in this order)");
        Asker x = full(1997);
        due("read of a<->true", x.read("a<->true"), 1999);
        due("its first part", x.page(x.write(x.formula(1999, 1))), "(a->true)");
        due("its second part", x.page(x.write(x.formula(1999, 2))), "(true->a)");
        due("(A -> B) is made first", x.page(x.write(1997)), "(a->true)");
        String[] stay = {"", "(a->true)", "(true->a)"};
        for (int room = 0; room < 3; room++) {
            x = full(2000 - room);
            fault(x, "a <-> true", 5, 2);
            due("count(0)", x.count(0), 2000);
            for (int i = 1; i <= room; i++) due("what stays", x.page(x.write(1999 - room + i)), stay[i]);
        }
    }

    private static void formulaTooManyWhere() {
        Dues.of(3, "FAULT 5 at the token by which ..");
        fault(full(2000), "~~true", 5, 1);
        fault(full(1999), "~~true", 5, 0);
        fault(full(2000), "a->true->true", 5, 7);
        fault(full(1999), "a->true->true", 5, 1);
        fault(full(2000), "(a|true)&a", 5, 2);
        fault(full(1999), "(a|true)&a", 5, 8);
        fault(full(2000), "a|true|a", 5, 1);
        fault(full(1999), "a|true|a", 5, 6);
        fault(full(2000), "a&true&a", 5, 1);
        fault(full(1999), "a&true&a", 5, 6);
        fault(full(2000), "a|a&true", 5, 3);
        fault(full(1999), "a|a&true", 5, 1);
        fault(full(2000), "a&a&b", 5, 4);
    }

    private static void madeTillFault() {
        Dues.of(3, "With a fault FORMULAS and VARIABLES that were made till then stay");
        Asker x = new Asker();
        fault(x, "(a&b)&c&?", 1, 8);
        due("count(0)", x.count(0), 7);
        due("count(1)", x.count(1), 3);
        due("a&b", x.read("a&b"), 4);
        due("(a&b)&c", x.read("a&b&c"), 6);
        x = new Asker();
        fault(x, "a b", 2, 2);
        due("count(0): b was not read", x.count(0), 3);
        x = new Asker();
        fault(x, "~".repeat(41) + "a", 3, 40);
        due("count(0)", x.count(0), 2);
        x = new Asker();
        fault(x, "~~a ~", 2, 4);
        due("count(0)", x.count(0), 5);
        due("~~a", x.read("~~a"), 4);
        x = new Asker();
        fault(x, "(a&)&z", 2, 3);
        due("count(1): z is behind the fault", x.count(1), 1);
        fault(x, "((a|)->y)&z", 2, 4);
        due("count(1)", x.count(1), 1);
        due("count(0)", x.count(0), 3);
    }

    private static void oneOfEachKind() {
        Dues.of(3, "of one kind and the same parts (in order) there is one");
        Asker x = new Asker();
        due("a&b", x.read("a&b"), 4);
        due("b&a", x.read("b&a"), 5);
        due("a|b", x.read("a|b"), 6);
        due("a->b", x.read("a->b"), 7);
        due("b->a", x.read("b->a"), 8);
        due("(a)&((b))", x.read("(a)&((b))"), 4);
        due("a<->b", x.read("a<->b"), 9);
        due("b<->a", x.read("b<->a"), 10);
        due("(a->b)&(b->a)", x.read("(a->b)&(b->a)"), 9);
        due("~a", x.read("~a"), 11);
        due("a->false", x.read("a->false"), 11);
        due("count(0)", x.count(0), 12);
    }

    // ---- 4

    private static void place() {
        Dues.of(4, "-1 if it had none, or before");
        Asker x = new Asker();
        due("place()", x.place(), -1);
        x.text("?");
        due("place() behind feed", x.place(), -1);
        due("read()", x.read(), -11);
        due("place()", x.place(), 0);
        due("read of a", x.read("a"), 2);
        due("place()", x.place(), -1);
        due("read of (a", x.read("(a"), -12);
        due("place()", x.place(), 2);
        Dues.of(4, "the latest read() or check()");
        due("check of T", x.check("T", 1), 1);
        due("place()", x.place(), -1);
        due("check of F(T?", x.check("F(T?", 1), -11);
        due("place()", x.place(), 3);
        due("check of T", x.check("T", 0), 0);
        due("place()", x.place(), -1);
        due("check of h0", x.check(" h0", 0), -16);
        due("place()", x.place(), 1);
        x.text("");
        x.write(2);
        x.prove(2, 5);
        x.refute();
        x.make(3, 2, 2);
        due("place() behind others", x.place(), 1);
        Dues.of(4, "a check() of no FORMULA leaves it");
        int[] none = {-1, 4, 5, 2000, MIN, MAX};
        for (int f : none) {
            due("check(" + f + ")", x.check(f), -1);
            due("place()", x.place(), 1);
        }
        due("check(0) of nothing", x.check(0), -12);
        due("place()", x.place(), 0);
        x.read("a");
        x.text("?");
        due("check(4)", x.check(4), -1);
        due("place()", x.place(), -1);
    }

    // ---- 5

    private static void count() {
        Dues.of(5, "-2 no such what");
        Asker x = new Asker();
        int[] outside = {-1, 4, 5, MIN, MAX};
        for (int what : outside) due("count(" + what + ")", x.count(what), -2);
        Dues.of(5, "how many FORMULAS, VARIABLES, GIVEN, WORLDS: the most that there may be");
        x.read(ALL_VARIABLES);
        x.fill(2000);
        x.read("y");
        x.make(4, 0, 0);
        for (int i = 0; i < 21; i++) x.given(1);
        for (int i = 0; i < 60; i++) x.world(0);
        int[] counts = {2000, 24, 20, 60};
        for (int what = 0; what < 4; what++) due("count(" + what + ")", x.count(what), counts[what]);
    }

    // ---- 6

    private static void formula() {
        Dues.of(6, "-1 there is none");
        Asker x = new Asker();
        x.read(ALL_VARIABLES);
        int[] none = {-1, 49, 50, 1999, 2000, MIN, MAX};
        for (int f : none) {
            for (int what = 0; what < 3; what++) due("formula(" + f + ", " + what + ")", x.formula(f, what), -1);
            due("formula(" + f + ", 3)", x.formula(f, 3), -1);
        }
        Dues.of(6, "-2 no such what");
        int[] outside = {-1, 3, 4, MIN, MAX};
        for (int what : outside) {
            due("formula(0, " + what + ")", x.formula(0, what), -2);
            due("formula(48, " + what + ")", x.formula(48, what), -2);
        }
        Dues.of(6, "of a VARIABLE its number; 0 of false, true .. 0 if it has none");
        int[] last = {2, 23, 0};
        for (int what = 0; what < 3; what++) {
            due("formula(47, " + what + ")", x.formula(47, what), last[what]);
            due("formula(0, " + what + ")", x.formula(0, what), 0);
            due("formula(1, " + what + ")", x.formula(1, what), what == 0 ? 1 : 0);
        }
        x.fill(1999);
        due("formula(1999, 0)", x.formula(1999, 0), -1);
        due("make(4, 47, 1998)", x.make(4, 47, 1998), 1999);
        due("formula(1999, 0)", x.formula(1999, 0), 4);
        due("formula(1999, 1)", x.formula(1999, 1), 47);
        due("formula(1999, 2)", x.formula(1999, 2), 1998);
        due("formula(2000, 0)", x.formula(2000, 0), -1);
    }

    // ---- 7

    private static void make() {
        Asker x = new Asker();
        x.read("a&b");
        Dues.of(7, "-1 there is no a, or b");
        int[] none = {-1, 5, 6, 2000, MIN, MAX};
        for (int f : none) {
            for (int kind = 3; kind < 6; kind++) {
                due("make(" + kind + ", " + f + ", 0)", x.make(kind, f, 0), -1);
                due("make(" + kind + ", 0, " + f + ")", x.make(kind, 0, f), -1);
                due("make(" + kind + ", " + f + ", " + f + ")", x.make(kind, f, f), -1);
            }
            due("make(9, " + f + ", 0): the first that fits", x.make(9, f, 0), -1);
            due("make(9, 0, " + f + "): the first that fits", x.make(9, 0, f), -1);
        }
        Dues.of(7, "-2 another kind");
        int[] outside = {-1, 0, 1, 2, 6, 7, MIN, MAX};
        for (int kind : outside) due("make(" + kind + ", 2, 3)", x.make(kind, 2, 3), -2);
        due("count(0)", x.count(0), 5);
        Dues.of(7, "made if need be");
        due("make(3, 2, 3)", x.make(3, 2, 3), 4);
        due("make(3, 0, 1)", x.make(3, 0, 1), 5);
        due("make(4, 0, 1)", x.make(4, 0, 1), 6);
        due("make(5, 0, 1)", x.make(5, 0, 1), 7);
        due("make(5, 7, 7)", x.make(5, 7, 7), 8);
        due("make(5, 0, 1)", x.make(5, 0, 1), 7);
        due("count(0)", x.count(0), 9);
    }

    private static void makeFull() {
        Dues.of(7, "-4 it would be 2000");
        for (int kind = 3; kind < 6; kind++) {
            Asker x = full(1999);
            due("make(" + kind + ", 0, 0)", x.make(kind, 0, 0), 1999);
            due("make(" + kind + ", 0, 1)", x.make(kind, 0, 1), -4);
            due("make(" + kind + ", 1999, 1999)", x.make(kind, 1999, 1999), -4);
            due("it is there", x.make(kind, 0, 0), 1999);
            due("make(2, 0, 1)", x.make(2, 0, 1), -2);
            due("make(6, 0, 1)", x.make(6, 0, 1), -2);
            due("make(" + kind + ", 0, 2000)", x.make(kind, 0, 2000), -1);
            due("make(" + kind + ", 2000, 0)", x.make(kind, 2000, 0), -1);
            due("count(0)", x.count(0), 2000);
            due("formula(1999, 0)", x.formula(1999, 0), kind);
        }
    }

    // ---- 8

    private static void write() {
        Dues.of(8, "-1");
        Asker x = new Asker();
        x.read("a");
        int[] none = {-1, 3, 4, 2000, MIN, MAX};
        for (int f : none) due("write(" + f + ")", x.write(f), -1);
        due("nothing was written", x.octet(0), -1);
        Dues.of(8, "-4 more than 8000");
        for (int bytes = 7998; bytes <= 8004; bytes++) {
            x = new Asker();
            int f = x.ofLength(bytes);
            due("write(1)", x.write(1), 4);
            due("write of " + bytes, x.write(f), bytes > 8000 ? -4 : bytes);
            due("octet(0)", x.octet(0), bytes > 8000 ? 't' : '(');
            due("octet(4)", x.octet(4) < 0 ? -1 : 0, bytes > 8000 ? -1 : 0);
            due("octet(" + (bytes - 1) + ")", x.octet(bytes - 1), bytes > 8000 ? -1 : ')');
            due("octet(" + bytes + ")", x.octet(bytes), -1);
        }
        Dues.of(8, "how many bytes");
        for (int bytes = 1; bytes < 40; bytes++) {
            x = new Asker();
            int f = x.ofLength(bytes);
            due("write of " + bytes, x.write(f), bytes);
            due("octet(" + (bytes - 1) + ")", x.octet(bytes - 1) < 0 ? -1 : 0, 0);
            due("octet(" + bytes + ")", x.octet(bytes), -1);
        }
        x = new Asker();
        due("write of the deepest of a text", x.write(x.read("a" + "&a".repeat(1499))), 1 + 4 * 1499);
        x = full(2000);
        for (int f = 1990; f < 2000; f++) x.write(f);
        due("write(2000)", x.write(2000), -1);
    }

    // ---- 9

    private static void octet() {
        Dues.of(9, "-1 there is none");
        Asker x = new Asker();
        int[] places = {MIN, -1, 0, 1, 7999, 8000, MAX};
        for (int i : places) due("octet(" + i + ")", x.octet(i), -1);
        x.read("a->b");
        due("write(4)", x.write(4), 6);
        due("page", x.page(6), "(a->b)");
        int[] none = {MIN, -1, 6, 7, 7999, 8000, MAX};
        for (int i : none) due("octet(" + i + ")", x.octet(i), -1);
        Dues.of(9, "of what was written latest");
        due("write(2)", x.write(2), 1);
        due("octet(0)", x.octet(0), 'a');
        due("octet(1)", x.octet(1), -1);
        due("write(9)", x.write(9), -1);
        due("proof()", x.proof(), -3);
        due("octet(0) behind refusals", x.octet(0), 'a');
        due("prove(1, 1)", x.prove(1, 1), 1);
        due("octet(0) behind a search", x.octet(0), 'a');
        due("proof()", x.proof(), 1);
        due("octet(0)", x.octet(0), 'T');
        due("octet(1)", x.octet(1), -1);
        due("write(0)", x.page(x.write(0)), "false");
        due("octet(5)", x.octet(5), -1);
    }
}
