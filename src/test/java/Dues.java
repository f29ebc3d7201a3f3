/** What is due and what was answered, told with the promise, and the words of it, that ask for it. */
final class Dues {
    private static final int PROMISES = 22;
    private static final boolean[] tested = new boolean[PROMISES + 1];
    private static int promise = 0;
    private static String words = "";
    private static int asked = 0;
    private static int wrong = 0;

    private Dues() { }

    /** What follows tests this promise, by these words of the document. */
    static void of(int number, String sentence) {
        promise = number;
        words = sentence;
        tested[number] = true;
    }

    static void due(String call, long got, long want) {
        asked++;
        if (got != want) wrong(call + " answered " + got + ", due is " + want);
    }

    static void due(String call, String got, String want) {
        asked++;
        if (!got.equals(want)) wrong(call + " told " + got + ", due is " + want);
    }

    private static void wrong(String what) {
        wrong++;
        System.out.println("promise " + promise + " (" + words + "): " + what);
    }

    /** Ends the tests of the promises from .. to, each of which must have been tested. */
    static void end(String name, int from, int to) {
        for (int i = from; i <= to; i++) {
            if (!tested[i]) {
                wrong++;
                System.out.println("promise " + i + " has no test");
            }
        }
        end(name);
    }

    static void end(String name) {
        System.out.println(name + ": " + (asked - wrong) + " as due, " + wrong + " not");
        if (wrong != 0 || Asker.overdone() != 0) System.exit(1);
    }
}
