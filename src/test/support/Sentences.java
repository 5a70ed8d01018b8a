/** What the tests share: each sentence of the document is told by name when an answer is not as due. */
abstract class Sentences {
    private static int wrong = 0;
    private static int asked = 0;
    private static String now = "";

    /** One sentence, one test: what is thrown fails this sentence alone, and the others are still tried. */
    static void sentence(String text, Runnable test) {
        now = text;
        asked++;
        try {
            test.run();
        } catch (RuntimeException thrown) {
            wrong++;
            System.out.println(now + ": threw " + thrown);
        }
    }

    static void end() {
        System.out.println(wrong == 0 ? asked + " sentences hold" : wrong + " answers are not as due");
        if (wrong != 0 || asked == 0) {
            System.exit(1);
        }
    }

    static void due(String what, long got, long want) {
        if (got != want) {
            wrong++;
            System.out.println(now + ": " + what + " answered " + got + ", due is " + want);
        }
    }

    static void due(String what, boolean got, boolean want) {
        due(what, got ? 1L : 0L, want ? 1L : 0L);
    }

    static long bits(int... symbols) {
        long set = 0;
        for (int symbol : symbols) {
            set |= 1L << symbol;
        }
        return set;
    }

    static long span(int first, int last) {
        long set = 0;
        for (int symbol = first; symbol <= last; symbol++) {
            set |= 1L << symbol;
        }
        return set;
    }

    /** Takes all candidates of a place but these. */
    static void keep(Counted x, int place, int... symbols) {
        long unwanted = x.candidates(place) & ~bits(symbols);
        for (int symbol = 0; symbol < 60; symbol++) {
            if ((unwanted >>> symbol & 1) != 0) {
                due("take(" + place + ", " + symbol + ")", x.take(place, symbol), true);
            }
        }
    }

    /** A new rule of places 0, 1, .., one for each factor. */
    static int ruleOf(Counted x, int kind, long right, long... factors) {
        int number = x.rule(kind, right);
        for (int place = 0; place < factors.length; place++) {
            due("into(" + number + ", " + place + ", " + factors[place] + ")",
                    x.into(number, place, factors[place]), true);
        }
        return number;
    }

    /** A rule that waits and TAKES, but never takes anything: it shows when it was woken. */
    static int watcher(Counted x, int... places) {
        int number = x.rule(3, 1_000_000);
        for (int place : places) {
            due("into(" + number + ", " + place + ", 0)", x.into(number, place, 0), true);
        }
        return number;
    }

    static void runs(Counted x, int answer, int... order) {
        due("run()", x.run(), answer);
        told(x, order);
    }

    static void told(Counted x, int... order) {
        due("woken()", x.woken(), order.length);
        for (int k = 0; k < order.length; k++) {
            due("order(" + k + ")", x.order(k), order[k]);
        }
        due("order(" + order.length + ")", x.order(order.length), -1);
    }

    static void has(Counted x, int place, long set) {
        due("candidates(" + place + ")", x.candidates(place), set);
    }
}
