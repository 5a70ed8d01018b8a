/** Promises 1 to 13: each sentence, or part of one, that names an edge has a test of its own. */
public final class PromiseEdgesTest extends Sentences {
    private static final int MIN = Integer.MIN_VALUE;
    private static final int MAX = Integer.MAX_VALUE;
    /** Numbers that are too small or too large everywhere, some of which a shift or a cast would wrap around. */
    private static final int[] NOWHERE = {-1, -2, -64, -128, MIN, MIN + 1, 128, 1 << 16, 1 << 26, 1 << 30, MAX};

    public static void main(String[] args) {
        newObject();
        rule();
        into();
        table();
        take();
        set();
        run();
        candidates();
        reason();
        mark();
        back();
        woken();
        order();
        end();
    }

    // ---- Promise 1

    private static void newObject() {
        sentence("1: No rules", PromiseEdgesTest::noRules);
        sentence("1: no marks", PromiseEdgesTest::noMarks);
        sentence("1: places is held to 1 .. 128, these two too", () -> {
            placesMade(1, 1);
            placesMade(2, 2);
            placesMade(127, 127);
            placesMade(128, 128);
        });
        sentence("1: places: what is below counts as the least", () -> {
            placesMade(0, 1);
            placesMade(-1, 1);
            placesMade(-128, 1);
            placesMade(MIN, 1);
        });
        sentence("1: places: what is above counts as the most", () -> {
            placesMade(129, 128);
            placesMade(256, 128);
            placesMade(1 << 26, 128);
            placesMade(MAX, 128);
        });
        sentence("1: symbols to 1 .. 60, these two too", () -> {
            symbolsMade(1, 1);
            symbolsMade(2, 2);
            symbolsMade(59, 59);
            symbolsMade(60, 60);
        });
        sentence("1: symbols: what is below counts as the least", () -> {
            symbolsMade(0, 1);
            symbolsMade(-1, 1);
            symbolsMade(-60, 1);
            symbolsMade(MIN, 1);
        });
        sentence("1: symbols: what is above counts as the most", () -> {
            symbolsMade(61, 60);
            symbolsMade(63, 60);
            symbolsMade(64, 60);
            symbolsMade(65, 60);
            symbolsMade(MAX, 60);
        });
        sentence("1: each of the two is held by itself", () -> {
            Counted x = new Counted(MAX, MIN);
            has(x, 127, 1);
            has(x, 128, -1);
            Counted y = new Counted(MIN, MAX);
            has(y, 0, span(0, 59));
            has(y, 1, -1);
        });
    }

    private static void noRules() {
        Counted x = new Counted(3, 3);
        due("into(0, 0, 0)", x.into(0, 0, 0), false);
        due("table(0, 0, 0)", x.table(0, 0, 0), false);
        x.take(0, 0);
        runs(x, 0);
        due("rule(7, 0)", x.rule(7, 0), 0);
    }

    private static void noMarks() {
        Counted x = new Counted(3, 3);
        due("back(0)", x.back(0), false);
        due("back(-1)", x.back(-1), false);
        due("rule(0, 0), as no mark stands", x.rule(0, 0), 0);
        due("mark()", x.mark(), 0);
    }

    private static void placesMade(int places, int made) {
        Counted x = new Counted(places, 3);
        String of = "of " + places + " places, ";
        due(of + "the first", x.candidates(0), 7);
        due(of + "the last", x.candidates(made - 1), 7);
        due(of + "after the last", x.candidates(made), -1);
        due(of + "take at the last", x.take(made - 1, 2), true);
        due(of + "take after the last", x.take(made, 2), false);
        due(of + "the last now", x.candidates(made - 1), 3);
    }

    private static void symbolsMade(int symbols, int made) {
        Counted x = new Counted(2, symbols);
        String of = "of " + symbols + " symbols, ";
        due(of + "all", x.candidates(0), span(0, made - 1));
        due(of + "take the one after the last", x.take(0, made), false);
        due(of + "take the last", x.take(0, made - 1), true);
        due(of + "the others", x.candidates(0), span(0, made - 2));
        due(of + "all of the other place", x.candidates(1), span(0, made - 1));
    }

    // ---- Promise 2

    private static void rule() {
        sentence("2: A rule without places", PromiseEdgesTest::ruleWithoutPlaces);
        sentence("2: its number", () -> {
            Counted x = new Counted(2, 2);
            for (int kind = 0; kind < 8; kind++) {
                due("rule(" + kind + ", 0)", x.rule(kind, 0), kind);
            }
        });
        sentence("2: -1 when there is no such kind (0 .. 7)", PromiseEdgesTest::noSuchKind);
        sentence("2: -1 when RIGHT is below -1,000,000", () ->
                rightRefused(-1_000_001L, -1_000_002L, Long.MIN_VALUE, -(1L << 32), -(1L << 32) + 5, -(1L << 40)));
        sentence("2: -1 when RIGHT is above 1,000,000", () ->
                rightRefused(1_000_001L, 1_000_002L, Long.MAX_VALUE, 1L << 32, (1L << 32) + 5, 1L << 62));
        sentence("2: RIGHT of -1,000,000 and of 1,000,000 is taken, and is not 0", PromiseEdgesTest::rightEnds);
        sentence("2: -1 when there are 120", PromiseEdgesTest::ruleFull);
        sentence("2: -1 when a mark stands", PromiseEdgesTest::ruleMarked);
    }

    private static void ruleWithoutPlaces() {
        Counted x = new Counted(17, 3);
        x.rule(1, 0);
        x.rule(1, 0);
        x.take(0, 0);
        runs(x, 0);
        for (int place = 0; place < 16; place++) {
            due("into(0, " + place + ", 0)", x.into(0, place, 0), true);
        }
        runs(x, 0, 0);
        due("its first place", x.reason(5, 0, 1), 0);
        due("its last place", x.reason(5, 0, 16), 15);
        x.take(0, 1);
        runs(x, 0, 0);
    }

    private static void noSuchKind() {
        Counted x = new Counted(2, 2);
        int[] none = {-1, 8, 9, -8, 15, 16, 64, 256, MIN, MAX, MIN + 3};
        for (int kind : none) {
            due("rule(" + kind + ", 0)", x.rule(kind, 0), -1);
        }
        due("no rule was made", x.into(0, 0, 0), false);
        due("rule(0, 0)", x.rule(0, 0), 0);
        due("rule(8, 0)", x.rule(8, 0), -1);
        due("rule(7, 0), no number was lost", x.rule(7, 0), 1);
    }

    private static void rightRefused(long... rights) {
        Counted x = new Counted(2, 2);
        for (long right : rights) {
            for (int kind = 0; kind < 8; kind++) {
                due("rule(" + kind + ", " + right + ")", x.rule(kind, right), -1);
            }
        }
        due("no rule was made", x.into(0, 0, 0), false);
        due("rule(2, 0), no number was lost", x.rule(2, 0), 0);
    }

    private static void rightEnds() {
        for (int kind = 0; kind < 8; kind++) {
            Counted x = new Counted(2, 2);
            due("rule(" + kind + ", -1000000)", x.rule(kind, -1_000_000), 0);
            due("rule(" + kind + ", 1000000)", x.rule(kind, 1_000_000), 1);
        }
        Counted low = new Counted(1, 3);
        ruleOf(low, 3, -1_000_000, -1000);
        due("at most -1000000", low.run(), 1);
        Counted high = new Counted(1, 3);
        ruleOf(high, 3, 1_000_000, 1000);
        due("at most 1000000", high.run(), 0);
        has(high, 0, 7);
    }

    private static void ruleFull() {
        Counted x = new Counted(2, 2);
        for (int number = 0; number < 120; number++) {
            due("rule " + number, x.rule(3, 1_000_000), number);
        }
        for (int kind = 0; kind < 8; kind++) {
            due("rule(" + kind + ", 0), of 120", x.rule(kind, 0), -1);
        }
        due("into(120, 0, 0)", x.into(120, 0, 0), false);
        due("into(119, 0, 0)", x.into(119, 0, 0), true);
        due("into(0, 0, 0)", x.into(0, 0, 0), true);
        runs(x, 0, 119, 0);
        due("rule(0, 0), of 120", x.rule(0, 0), -1);
    }

    private static void ruleMarked() {
        Counted x = new Counted(2, 2);
        x.mark();
        due("rule(0, 0) under a mark", x.rule(0, 0), -1);
        due("no rule was made", x.into(0, 0, 0), false);
        x.mark();
        due("rule(0, 0) under two marks", x.rule(0, 0), -1);
        x.back(1);
        due("rule(0, 0) under a mark again", x.rule(0, 0), -1);
        x.back(0);
        due("no rule was made", x.into(0, 0, 0), false);
        due("rule(0, 0) under none", x.rule(0, 0), 0);
        x.mark();
        x.mark();
        x.back(0);
        due("rule(0, 0) when both went at once", x.rule(0, 0), 1);
    }

    // ---- Promise 3

    private static void into() {
        sentence("3: A place comes into a rule: true", () -> {
            Counted x = new Counted(128, 2);
            x.rule(1, 0);
            due("into(0, 127, 0)", x.into(0, 127, 0), true);
            due("into(0, 0, 0)", x.into(0, 0, 0), true);
            x.take(127, 1);
            runs(x, 0, 0);
            has(x, 0, 1);
        });
        sentence("3: false, doing nothing, when there is no such rule", PromiseEdgesTest::intoNoRule);
        sentence("3: false, doing nothing, when there is no such place", PromiseEdgesTest::intoNoPlace);
        sentence("3: false, doing nothing, when the factor is below -1,000", () ->
                factorRefused(-1001, -1002, Long.MIN_VALUE, -(1L << 32), -(1L << 32) + 1, -(1L << 40)));
        sentence("3: false, doing nothing, when the factor is above 1,000", () ->
                factorRefused(1001, 1002, Long.MAX_VALUE, 1L << 32, (1L << 32) + 1, 1L << 62));
        sentence("3: factors of -1,000 and 1,000 are taken", () -> {
            Counted x = new Counted(2, 60);
            ruleOf(x, 2, 59_000, 1000, -1000);
            runs(x, 0, 0);
            has(x, 0, bits(59));
            has(x, 1, bits(0));
        });
        sentence("3: false, doing nothing, when the place is in it", PromiseEdgesTest::intoAgain);
        sentence("3: false, doing nothing, when it has 16", PromiseEdgesTest::intoFull);
        sentence("3: false, doing nothing, when a mark stands", PromiseEdgesTest::intoMarked);
    }

    private static void intoNoRule() {
        Counted x = new Counted(3, 3);
        watcher(x, 0);
        x.rule(3, 1_000_000);
        x.run();
        due("into(2, 0, 0)", x.into(2, 0, 0), false);
        due("into(119, 0, 0)", x.into(119, 0, 0), false);
        due("into(120, 0, 0)", x.into(120, 0, 0), false);
        for (int rule : NOWHERE) {
            due("into(" + rule + ", 1, 0)", x.into(rule, 1, 0), false);
        }
        runs(x, 0);
        x.take(1, 0);
        runs(x, 0);
        x.take(0, 0);
        runs(x, 0, 0);
    }

    private static void intoNoPlace() {
        Counted x = new Counted(3, 3);
        x.rule(3, 1_000_000);
        due("into(0, 3, 0)", x.into(0, 3, 0), false);
        due("into(0, 127, 0)", x.into(0, 127, 0), false);
        for (int place : NOWHERE) {
            due("into(0, " + place + ", 0)", x.into(0, place, 0), false);
        }
        x.take(0, 0);
        x.take(1, 0);
        x.take(2, 0);
        runs(x, 0);
        due("into(0, 2, 0)", x.into(0, 2, 0), true);
        runs(x, 0, 0);
    }

    private static void factorRefused(long... factors) {
        for (int kind = 0; kind < 8; kind++) {
            Counted x = new Counted(3, 3);
            x.rule(kind, 0);
            for (long factor : factors) {
                due("into(0, 1, " + factor + ") of kind " + kind, x.into(0, 1, factor), false);
            }
            runs(x, 0);
            x.take(1, 0);
            runs(x, 0);
            due("into(0, 1, 1)", x.into(0, 1, 1), true);
        }
    }

    private static void intoAgain() {
        Counted x = new Counted(3, 10);
        ruleOf(x, 2, 6, 1, 3);
        due("into(0, 0, 2), waiting", x.into(0, 0, 2), false);
        runs(x, 0, 0);
        has(x, 0, span(0, 6));
        has(x, 1, span(0, 2));
        due("into(0, 0, 2)", x.into(0, 0, 2), false);
        due("into(0, 1, 3)", x.into(0, 1, 3), false);
        runs(x, 0);
        x.set(1, 0);
        runs(x, 0, 0);
        has(x, 0, bits(6));
        due("its second place", x.reason(0, 5, 2), 1);
        due("no third place", x.reason(0, 5, 3), -1);
    }

    private static void intoFull() {
        for (int kind = 0; kind < 8; kind++) {
            Counted x = new Counted(20, 20);
            x.rule(kind, 0);
            for (int place = 0; place < 15; place++) {
                due("into(0, " + place + ", 0)", x.into(0, place, 0), true);
            }
            due("the 16th of kind " + kind, x.into(0, 19, 0), true);
            x.mark();
            x.run();
            due("woken()", x.woken(), 1);
            x.back(0);
            due("a 17th of kind " + kind, x.into(0, 15, 0), false);
            due("another one", x.into(0, 18, 0), false);
            due("the first one again", x.into(0, 0, 0), false);
        }
        Counted x = new Counted(17, 2);
        ruleOf(x, 1, 0, new long[16]);
        x.take(0, 0);
        runs(x, 0, 0);
        due("a 17th", x.into(0, 16, 0), false);
        runs(x, 0);
        due("its 16th place", x.reason(1, 0, 16), 15);
        due("no 17th place", x.reason(1, 0, 17), -1);
        has(x, 16, 3);
        x.take(16, 1);
        runs(x, 0);
        has(x, 0, 2);
        x.rule(1, 0);
        due("another rule has room", x.into(1, 16, 0), true);
    }

    private static void intoMarked() {
        Counted x = new Counted(3, 3);
        watcher(x, 0);
        x.run();
        x.mark();
        due("into(0, 1, 0) under a mark", x.into(0, 1, 0), false);
        runs(x, 0);
        x.take(1, 0);
        runs(x, 0);
        x.mark();
        due("into(0, 1, 0) under two marks", x.into(0, 1, 0), false);
        x.back(1);
        due("into(0, 1, 0) under a mark again", x.into(0, 1, 0), false);
        x.back(0);
        runs(x, 0);
        due("into(0, 1, 0) under none", x.into(0, 1, 0), true);
        runs(x, 0, 0);
    }

    // ---- Promise 4

    private static void table() {
        sentence("4: A PAIR comes to a rule of kind 7: true", () -> {
            Counted x = new Counted(2, 60);
            ruleOf(x, 7, 0, 0, 0);
            due("table(0, 0, 59)", x.table(0, 0, 59), true);
            due("table(0, 59, 0)", x.table(0, 59, 0), true);
            runs(x, 0, 0);
            has(x, 0, bits(0, 59));
            has(x, 1, bits(0, 59));
        });
        sentence("4: false, doing nothing, when it is none: no rule at all", PromiseEdgesTest::tableNoRule);
        sentence("4: false, doing nothing, when it is none: of another kind", PromiseEdgesTest::tableOtherKind);
        sentence("4: false, doing nothing, when a symbol is none, the first", () -> {
            for (int symbol : NOWHERE) {
                tableRefused(60, symbol, 0);
            }
            tableRefused(60, 60, 0);
            tableRefused(60, 63, 0);
            tableRefused(60, 64, 0);
            tableRefused(4, 4, 0);
            tableRefused(4, 59, 0);
        });
        sentence("4: false, doing nothing, when a symbol is none, the second", () -> {
            for (int symbol : NOWHERE) {
                tableRefused(60, 0, symbol);
            }
            tableRefused(60, 0, 60);
            tableRefused(60, 0, 63);
            tableRefused(60, 0, 64);
            tableRefused(4, 0, 4);
            tableRefused(4, 0, 59);
        });
        sentence("4: false, doing nothing, when it has the pair", PromiseEdgesTest::tableAgain);
        sentence("4: false, doing nothing, when it has 400", PromiseEdgesTest::tableFull);
        sentence("4: false, doing nothing, when a mark stands", PromiseEdgesTest::tableMarked);
    }

    private static void tableNoRule() {
        Counted x = new Counted(2, 3);
        x.rule(7, 0);
        due("table(1, 0, 0)", x.table(1, 0, 0), false);
        due("table(119, 0, 0)", x.table(119, 0, 0), false);
        due("table(120, 0, 0)", x.table(120, 0, 0), false);
        for (int rule : NOWHERE) {
            due("table(" + rule + ", 0, 0)", x.table(rule, 0, 0), false);
        }
        runs(x, 0);
        due("rule(7, 0)", x.rule(7, 0), 1);
        due("table(1, 0, 0), the new rule has no pair", x.table(1, 0, 0), true);
    }

    private static void tableOtherKind() {
        for (int kind = 0; kind < 7; kind++) {
            Counted x = new Counted(2, 3);
            ruleOf(x, kind, 1, 1, 1);
            x.run();
            due("table(0, 0, 0) of kind " + kind, x.table(0, 0, 0), false);
            due("table(0, 2, 2) of kind " + kind, x.table(0, 2, 2), false);
            runs(x, 0);
        }
    }

    private static void tableRefused(int symbols, int a, int b) {
        String call = "table(0, " + a + ", " + b + ") of " + symbols + " symbols";
        Counted x = new Counted(2, symbols);
        ruleOf(x, 7, 0, 0, 0);
        x.table(0, 1, 1);
        x.run();
        due(call, x.table(0, a, b), false);
        runs(x, 0);
        Counted y = new Counted(2, symbols);
        ruleOf(y, 7, 0, 0, 0);
        due(call, y.table(0, a, b), false);
        due(call + " left no pair", y.run(), 1);
    }

    private static void tableAgain() {
        Counted x = new Counted(2, 60);
        ruleOf(x, 7, 0, 0, 0);
        due("table(0, 3, 59)", x.table(0, 3, 59), true);
        due("table(0, 59, 3), another pair", x.table(0, 59, 3), true);
        due("table(0, 3, 3), another pair", x.table(0, 3, 3), true);
        runs(x, 0, 0);
        due("table(0, 3, 59) again", x.table(0, 3, 59), false);
        due("table(0, 59, 3) again", x.table(0, 59, 3), false);
        due("table(0, 3, 3) again", x.table(0, 3, 3), false);
        runs(x, 0);
        x.set(0, 3);
        runs(x, 0, 0);
        has(x, 1, bits(3, 59));
        x.rule(7, 0);
        due("table(1, 3, 59), of another rule", x.table(1, 3, 59), true);
    }

    private static void tableFull() {
        Counted x = new Counted(2, 21);
        ruleOf(x, 7, 0, 0, 0);
        for (int pair = 0; pair < 400; pair++) {
            due("pair " + pair, x.table(0, pair / 20, pair % 20), true);
        }
        runs(x, 0, 0);
        due("a 401st", x.table(0, 20, 20), false);
        due("one that it has", x.table(0, 0, 0), false);
        runs(x, 0);
        has(x, 0, span(0, 19));
        has(x, 1, span(0, 19));
        x.rule(7, 0);
        due("another rule has room", x.table(1, 20, 20), true);
        Counted y = new Counted(2, 21);
        ruleOf(y, 7, 0, 0, 0);
        for (int pair = 0; pair < 400; pair++) {
            y.table(0, pair / 20, pair % 20);
        }
        due("a 401st before the run", y.table(0, 20, 20), false);
        due("run()", y.run(), 0);
        has(y, 0, span(0, 19));
    }

    private static void tableMarked() {
        Counted x = new Counted(2, 3);
        ruleOf(x, 7, 0, 0, 0);
        x.table(0, 1, 1);
        x.mark();
        due("table(0, 2, 2) under a mark", x.table(0, 2, 2), false);
        runs(x, 0, 0);
        has(x, 0, bits(1));
        due("table(0, 2, 2) under a mark", x.table(0, 2, 2), false);
        runs(x, 0);
        x.mark();
        due("table(0, 2, 2) under two marks", x.table(0, 2, 2), false);
        x.back(1);
        due("table(0, 2, 2) under a mark again", x.table(0, 2, 2), false);
        x.back(0);
        due("table(0, 2, 2) under none", x.table(0, 2, 2), true);
        runs(x, 0, 0);
        has(x, 0, bits(1, 2));
    }

    // ---- Promise 5

    private static void take() {
        sentence("5: A candidate goes: true, the first and the last one too", () -> {
            Counted x = new Counted(128, 60);
            due("take(0, 0)", x.take(0, 0), true);
            due("take(127, 59)", x.take(127, 59), true);
            has(x, 0, span(1, 59));
            has(x, 127, span(0, 58));
            has(x, 1, span(0, 59));
            has(x, 126, span(0, 59));
        });
        sentence("5: A candidate goes: true, also the only one that is left", () -> {
            Counted x = new Counted(2, 2);
            due("take(1, 0)", x.take(1, 0), true);
            due("take(1, 1)", x.take(1, 1), true);
            has(x, 1, 0);
            due("take(1, 1) again", x.take(1, 1), false);
            Counted y = new Counted(1, 1);
            due("take(0, 0), the only symbol", y.take(0, 0), true);
            has(y, 0, 0);
        });
        sentence("5: false when it is none any more", PromiseEdgesTest::takeGone);
        sentence("5: false when it is no symbol", () -> {
            for (int symbol : NOWHERE) {
                takeRefused(60, 0, symbol);
            }
            takeRefused(60, 0, 60);
            takeRefused(60, 0, 63);
            takeRefused(60, 0, 64);
            takeRefused(60, 0, 123);
            takeRefused(4, 0, 4);
            takeRefused(4, 0, 59);
        });
        sentence("5: false when there is no such place", () -> {
            for (int place : NOWHERE) {
                takeRefused(4, place, 0);
            }
            takeRefused(4, 2, 0);
            takeRefused(4, 64, 0);
            takeRefused(4, 127, 0);
        });
        sentence("5: also while a mark stands", () -> {
            Counted x = new Counted(2, 2);
            x.mark();
            due("take(0, 0)", x.take(0, 0), true);
            has(x, 0, 2);
        });
    }

    private static void takeGone() {
        Counted x = new Counted(2, 4);
        ruleOf(x, 1, 0, 0, 0);
        x.take(0, 2);
        runs(x, 0, 0);
        due("take(0, 2), by take()", x.take(0, 2), false);
        due("take(1, 2), by a rule", x.take(1, 2), false);
        due("the rule stays its REASON", x.reason(1, 2, 0), 0);
        runs(x, 0);
        x.set(0, 1);
        x.run();
        due("take(0, 3), by set()", x.take(0, 3), false);
        runs(x, 0);
        has(x, 0, 2);
        has(x, 1, 2);
    }

    private static void takeRefused(int symbols, int place, int symbol) {
        Counted x = new Counted(2, symbols);
        watcher(x, 0, 1);
        x.run();
        due("take(" + place + ", " + symbol + ") of " + symbols + " symbols", x.take(place, symbol), false);
        runs(x, 0);
        has(x, 0, span(0, symbols - 1));
        has(x, 1, span(0, symbols - 1));
    }

    // ---- Promise 6

    private static void set() {
        sentence("6: All other candidates of a place go: true, the first and the last one too", () -> {
            Counted x = new Counted(128, 60);
            due("set(0, 0)", x.set(0, 0), true);
            due("set(127, 59)", x.set(127, 59), true);
            has(x, 0, 1);
            has(x, 127, 1L << 59);
            has(x, 1, span(0, 59));
            has(x, 126, span(0, 59));
        });
        sentence("6: true, with no other candidates: none goes", () -> {
            Counted x = new Counted(2, 3);
            watcher(x, 0);
            x.take(0, 0);
            x.take(0, 1);
            x.run();
            due("set(0, 2)", x.set(0, 2), true);
            has(x, 0, 4);
            runs(x, 0);
            Counted y = new Counted(1, 1);
            due("set(0, 0), the only symbol", y.set(0, 0), true);
            has(y, 0, 1);
        });
        sentence("6: false, doing nothing, when the symbol is no candidate any more", PromiseEdgesTest::setGone);
        sentence("6: false, doing nothing, when it is no symbol", () -> {
            for (int symbol : NOWHERE) {
                setRefused(60, 0, symbol);
            }
            setRefused(60, 0, 60);
            setRefused(60, 0, 63);
            setRefused(60, 0, 64);
            setRefused(60, 0, 123);
            setRefused(4, 0, 4);
            setRefused(4, 0, 59);
        });
        sentence("6: false, doing nothing, when there is no such place", () -> {
            for (int place : NOWHERE) {
                setRefused(4, place, 0);
            }
            setRefused(4, 2, 0);
            setRefused(4, 64, 0);
            setRefused(4, 127, 0);
        });
        sentence("6: also while a mark stands", () -> {
            Counted x = new Counted(2, 3);
            x.mark();
            due("set(0, 1)", x.set(0, 1), true);
            has(x, 0, 2);
        });
    }

    private static void setGone() {
        Counted x = new Counted(3, 4);
        ruleOf(x, 1, 0, 0, 0);
        x.take(0, 2);
        runs(x, 0, 0);
        due("set(0, 2), gone by take()", x.set(0, 2), false);
        due("set(1, 2), gone by a rule", x.set(1, 2), false);
        has(x, 0, bits(0, 1, 3));
        has(x, 1, bits(0, 1, 3));
        runs(x, 0);
        due("set(1, 3)", x.set(1, 3), true);
        due("what a rule took before keeps its REASON", x.reason(1, 2, 0), 0);
        due("set(1, 0), gone by set()", x.set(1, 0), false);
        has(x, 1, bits(3));
        x.take(2, 0);
        x.take(2, 1);
        x.take(2, 2);
        x.take(2, 3);
        due("set(2, 3), of a place without candidates", x.set(2, 3), false);
        has(x, 2, 0);
    }

    private static void setRefused(int symbols, int place, int symbol) {
        Counted x = new Counted(2, symbols);
        watcher(x, 0, 1);
        x.run();
        due("set(" + place + ", " + symbol + ") of " + symbols + " symbols", x.set(place, symbol), false);
        runs(x, 0);
        has(x, 0, span(0, symbols - 1));
        has(x, 1, span(0, symbols - 1));
    }

    // ---- Promise 7

    private static void run() {
        sentence("7: 0, without rules", () -> runs(new Counted(1, 1), 0));
        sentence("7: 0, when none waits", () -> {
            Counted x = new Counted(2, 2);
            watcher(x, 0);
            runs(x, 0, 0);
            runs(x, 0);
            runs(x, 0);
        });
        sentence("7: 0, when each place keeps one candidate", () -> {
            Counted x = new Counted(2, 2);
            ruleOf(x, 0, 0, 0, 0);
            x.set(0, 1);
            runs(x, 0, 0);
            has(x, 1, 1);
        });
        sentence("7: 1 and the place without candidates: the first and the last place", () -> {
            emptied(1, 0);
            emptied(128, 0);
            emptied(128, 1);
            emptied(128, 63);
            emptied(128, 64);
            emptied(128, 126);
            emptied(128, 127);
        });
        sentence("7: the least place without candidates", () -> {
            Counted x = new Counted(128, 1);
            x.take(127, 0);
            due("run()", x.run(), 128);
            x.take(5, 0);
            due("run()", x.run(), 6);
            x.take(9, 0);
            due("run()", x.run(), 6);
            x.take(0, 0);
            due("run()", x.run(), 1);
        });
        sentence("7: the least place, not the first one of the rule", () -> {
            Counted x = new Counted(6, 2);
            x.rule(1, 0);
            x.into(0, 5, 0);
            x.into(0, 2, 0);
            x.into(0, 4, 0);
            x.set(5, 0);
            x.set(4, 1);
            runs(x, 3, 0);
        });
        sentence("7: again, as long as the place is without candidates", () -> {
            Counted x = new Counted(2, 1);
            x.take(1, 0);
            due("run()", x.run(), 2);
            due("run()", x.run(), 2);
        });
    }

    private static void emptied(int places, int place) {
        Counted x = new Counted(places, 2);
        x.take(place, 0);
        due("run()", x.run(), 0);
        x.take(place, 1);
        due("run() of place " + place, x.run(), place + 1);
    }

    // ---- Promise 8

    private static void candidates() {
        sentence("8: bit s for symbol s, the first and the last one too", () -> {
            for (int symbol = 0; symbol < 60; symbol++) {
                Counted x = new Counted(128, 60);
                x.set(0, symbol);
                x.take(127, symbol);
                has(x, 0, 1L << symbol);
                has(x, 127, span(0, 59) - (1L << symbol));
            }
        });
        sentence("8: none is left: no bit", () -> {
            Counted x = new Counted(2, 1);
            x.take(0, 0);
            has(x, 0, 0);
            has(x, 1, 1);
        });
        sentence("8: -1 when there is no such place", () -> {
            Counted x = new Counted(3, 60);
            has(x, 0, span(0, 59));
            has(x, 2, span(0, 59));
            has(x, 3, -1);
            has(x, 4, -1);
            has(x, 64, -1);
            has(x, 127, -1);
            for (int place : NOWHERE) {
                has(x, place, -1);
            }
        });
    }

    // ---- Promise 9

    private static void reason() {
        sentence("9: Of a symbol that is no candidate any more; of a candidate -1", PromiseEdgesTest::reasonOfCandidate);
        sentence("9: k 0 its REASON's number, the first and the last rule too", PromiseEdgesTest::reasonNumber);
        sentence("9: k 1, 2, .. that rule's places in order", PromiseEdgesTest::reasonPlaces);
        sentence("9: -1 when it has none: take() and set()", PromiseEdgesTest::reasonNone);
        sentence("9: -1 when there is no such place", () -> {
            Counted x = reasoned();
            due("reason(3, 1, 0)", x.reason(3, 1, 0), -1);
            due("reason(3, 1, 1)", x.reason(3, 1, 1), -1);
            due("reason(127, 1, 0)", x.reason(127, 1, 0), -1);
            for (int place : NOWHERE) {
                due("reason(" + place + ", 1, 0)", x.reason(place, 1, 0), -1);
            }
        });
        sentence("9: -1 when there is no such symbol", () -> {
            Counted x = reasoned();
            int[] none = {3, 4, 59, 60, 63, 64, 65, 66, 67, 129};
            for (int symbol : none) {
                due("reason(1, " + symbol + ", 0)", x.reason(1, symbol, 0), -1);
                due("reason(0, " + symbol + ", 0)", x.reason(0, symbol, 0), -1);
            }
            for (int symbol : NOWHERE) {
                due("reason(2, " + symbol + ", 0)", x.reason(2, symbol, 0), -1);
                due("reason(1, " + symbol + ", 1)", x.reason(1, symbol, 1), -1);
            }
        });
        sentence("9: -1 when there is no such k, too large", () -> {
            Counted x = reasoned();
            due("the last one", x.reason(1, 1, 3), 1);
            int[] none = {4, 5, 15, 16, 17, 18, 32, 64, 120, 1 << 30, MAX - 1, MAX};
            for (int k : none) {
                due("reason(1, 1, " + k + ")", x.reason(1, 1, k), -1);
            }
        });
        sentence("9: -1 when there is no such k, too small", () -> {
            Counted x = reasoned();
            int[] none = {-1, -2, -3, -16, MIN, MIN + 1};
            for (int k : none) {
                due("reason(1, 1, " + k + ")", x.reason(1, 1, k), -1);
            }
        });
        sentence("9: -1 when there is no such k, of a rule that has 16 places", () -> {
            Counted x = new Counted(16, 3);
            ruleOf(x, 1, 0, new long[16]);
            x.take(0, 1);
            x.run();
            due("k 15", x.reason(3, 1, 15), 14);
            due("k 16", x.reason(3, 1, 16), 15);
            due("k 17", x.reason(3, 1, 17), -1);
        });
    }

    /** Rule 0, equal, of places 2, 0, 1 took symbol 1 of places 1 and 2, which take() took of place 0. */
    private static Counted reasoned() {
        Counted x = new Counted(3, 3);
        x.rule(1, 0);
        x.into(0, 2, 0);
        x.into(0, 0, 0);
        x.into(0, 1, 0);
        x.take(0, 1);
        runs(x, 0, 0);
        return x;
    }

    private static void reasonOfCandidate() {
        Counted x = reasoned();
        due("reason(1, 0, 0), a candidate", x.reason(1, 0, 0), -1);
        due("reason(1, 0, 1), a candidate", x.reason(1, 0, 1), -1);
        due("reason(1, 2, 0), a candidate", x.reason(1, 2, 0), -1);
        due("reason(1, 1, 0)", x.reason(1, 1, 0), 0);
        Counted y = new Counted(2, 2);
        ruleOf(y, 1, 0, 0, 0);
        y.mark();
        y.take(0, 0);
        y.run();
        due("reason(1, 0, 0)", y.reason(1, 0, 0), 0);
        y.back(0);
        due("reason(1, 0, 0), a candidate again", y.reason(1, 0, 0), -1);
        due("reason(1, 0, 1), a candidate again", y.reason(1, 0, 1), -1);
    }

    private static void reasonNumber() {
        Counted x = new Counted(4, 3);
        for (int number = 0; number < 120; number++) {
            x.rule(1, 0);
        }
        int[] rules = {0, 59, 60, 119};
        for (int i = 0; i < rules.length; i++) {
            x.into(rules[i], i, 0);
            x.into(rules[i], (i + 1) % 4, 0);
        }
        x.mark();
        x.take(0, 2);
        due("run()", x.run(), 0);
        due("by rule 0", x.reason(1, 2, 0), 0);
        due("by rule 59", x.reason(2, 2, 0), 59);
        due("by rule 60", x.reason(3, 2, 0), 60);
        x.back(0);
        x.take(3, 2);
        due("run()", x.run(), 0);
        due("by rule 119", x.reason(0, 2, 0), 119);
        due("its places", x.reason(0, 2, 1) * 10 + x.reason(0, 2, 2), 30);
    }

    private static void reasonPlaces() {
        Counted x = reasoned();
        due("reason(1, 1, 1)", x.reason(1, 1, 1), 2);
        due("reason(1, 1, 2)", x.reason(1, 1, 2), 0);
        due("reason(1, 1, 3)", x.reason(1, 1, 3), 1);
        due("reason(2, 1, 1)", x.reason(2, 1, 1), 2);
        due("reason(2, 1, 3)", x.reason(2, 1, 3), 1);
    }

    private static void reasonNone() {
        Counted x = reasoned();
        due("of take(), k 0", x.reason(0, 1, 0), -1);
        due("of take(), k 1", x.reason(0, 1, 1), -1);
        x.set(0, 2);
        due("of set(), k 0", x.reason(0, 0, 0), -1);
        due("of set(), k 1", x.reason(0, 0, 1), -1);
        Counted y = new Counted(2, 2);
        ruleOf(y, 1, 0, 0, 0);
        y.mark();
        y.take(0, 0);
        y.run();
        y.back(0);
        y.take(1, 0);
        due("of take(), what a rule took before back()", y.reason(1, 0, 0), -1);
        due("run()", y.run(), 0);
        due("of a rule, what take() took before back()", y.reason(0, 0, 0), 0);
    }

    // ---- Promise 10

    private static void mark() {
        sentence("10: What is now is kept: candidates", () -> {
            Counted x = new Counted(2, 60);
            x.take(0, 59);
            x.mark();
            x.take(0, 0);
            x.set(1, 59);
            x.back(0);
            has(x, 0, span(0, 58));
            has(x, 1, span(0, 59));
        });
        sentence("10: What is now is kept: reasons", PromiseEdgesTest::markReasons);
        sentence("10: What is now is kept: the row, with none in it", () -> {
            Counted x = new Counted(2, 3);
            watcher(x, 0);
            x.run();
            x.mark();
            x.take(0, 0);
            x.back(0);
            runs(x, 0);
        });
        sentence("10: What is now is kept: the row, and its order", PromiseEdgesTest::markRow);
        sentence("10: What is now is kept: the row, full", PromiseEdgesTest::markFullRow);
        sentence("10: What is now is kept: the row, however many came and went since", PromiseEdgesTest::markRowAgain);
        sentence("10: What is now is kept: the order told", PromiseEdgesTest::markOrder);
        sentence("10: the mark's number, 0 for the first one that stands", () -> {
            Counted x = new Counted(2, 2);
            for (int times = 0; times < 3; times++) {
                due("mark()", x.mark(), 0);
                due("mark()", x.mark(), 1);
                due("mark()", x.mark(), 2);
                due("back(1)", x.back(1), true);
                due("mark()", x.mark(), 1);
                due("back(0)", x.back(0), true);
            }
        });
        sentence("10: -1 when 20 stand", PromiseEdgesTest::markFull);
    }

    private static void markReasons() {
        Counted x = new Counted(3, 3);
        ruleOf(x, 1, 0, 0, 0);
        ruleOf(x, 1, 0, 0, 0, 0);
        x.take(0, 0);
        x.run();
        due("by rule 0", x.reason(1, 0, 0), 0);
        due("by rule 1", x.reason(2, 0, 0), 1);
        x.mark();
        x.set(2, 1);
        x.run();
        due("by rule 1", x.reason(0, 2, 0), 1);
        x.back(0);
        due("by rule 0", x.reason(1, 0, 0), 0);
        due("by rule 1", x.reason(2, 0, 0), 1);
        due("a candidate", x.reason(0, 2, 0), -1);
        due("a candidate", x.reason(2, 2, 0), -1);
    }

    private static void markRow() {
        Counted x = new Counted(4, 3);
        for (int place = 0; place < 4; place++) {
            watcher(x, place);
        }
        runs(x, 0, 0, 1, 2, 3);
        x.take(2, 0);
        x.take(0, 0);
        x.mark();
        x.take(3, 0);
        x.mark();
        runs(x, 0, 2, 0, 3);
        x.take(1, 0);
        x.back(1);
        runs(x, 0, 2, 0, 3);
        x.back(0);
        x.take(1, 0);
        x.take(0, 1);
        runs(x, 0, 2, 0, 1);
    }

    private static void markFullRow() {
        Counted x = new Counted(1, 3);
        for (int number = 0; number < 120; number++) {
            x.rule(3, 1_000_000);
        }
        for (int number = 119; number >= 0; number--) {
            x.into(number, 0, 0);
        }
        x.mark();
        due("run()", x.run(), 0);
        due("woken()", x.woken(), 120);
        due("run()", x.run(), 0);
        due("woken()", x.woken(), 0);
        x.back(0);
        due("run()", x.run(), 0);
        due("woken()", x.woken(), 120);
        for (int k = 0; k < 120; k++) {
            due("order(" + k + ")", x.order(k), 119 - k);
        }
    }

    /** 40 rules come at each take(): four times are more than the row has room for. */
    private static void markRowAgain() {
        Counted x = new Counted(4, 6);
        for (int number = 0; number < 40; number++) {
            watcher(x, 0);
        }
        watcher(x, 1);
        watcher(x, 2);
        watcher(x, 3);
        x.run();
        x.take(3, 0);
        x.take(1, 0);
        x.mark();
        for (int symbol = 0; symbol < 4; symbol++) {
            x.take(0, symbol);
            due("run()", x.run(), 0);
            due("woken()", x.woken(), symbol == 0 ? 42 : 40);
            x.mark();
        }
        x.back(0);
        x.take(2, 0);
        runs(x, 0, 42, 40, 41);
    }

    private static void markOrder() {
        Counted x = new Counted(3, 3);
        watcher(x, 0);
        watcher(x, 1);
        watcher(x, 2);
        x.mark();
        runs(x, 0, 0, 1, 2);
        x.back(0);
        told(x);
        runs(x, 0, 0, 1, 2);
        x.take(2, 0);
        x.take(1, 0);
        runs(x, 0, 2, 1);
        x.mark();
        x.take(0, 0);
        runs(x, 0, 0);
        x.mark();
        runs(x, 0);
        x.back(1);
        told(x, 0);
        x.back(0);
        told(x, 2, 1);
    }

    private static void markFull() {
        Counted x = new Counted(2, 30);
        watcher(x, 0);
        for (int number = 0; number < 20; number++) {
            due("mark " + number, x.mark(), number);
            x.take(0, number);
        }
        due("a 21st", x.mark(), -1);
        x.take(0, 20);
        due("again", x.mark(), -1);
        due("back(20)", x.back(20), false);
        has(x, 0, span(21, 29));
        due("back(19)", x.back(19), true);
        has(x, 0, span(19, 29));
        due("mark(), 19 stand", x.mark(), 19);
        due("mark(), 20 stand", x.mark(), -1);
        due("back(0)", x.back(0), true);
        has(x, 0, span(0, 29));
        due("mark(), none stands", x.mark(), 0);
    }

    // ---- Promise 11

    private static void back() {
        sentence("11: All is as it was when a mark was made: nothing was done since", () -> {
            Counted x = new Counted(2, 3);
            watcher(x, 0);
            x.run();
            x.take(0, 1);
            x.mark();
            due("back(0)", x.back(0), true);
            told(x, 0);
            has(x, 0, bits(0, 2));
            runs(x, 0, 0);
        });
        sentence("11: All is as it was: a place without candidates has them again", PromiseEdgesTest::backFromEmpty);
        sentence("11: All is as it was: a place without candidates before the mark stays so", () -> {
            Counted x = new Counted(3, 1);
            x.take(1, 0);
            x.mark();
            x.take(0, 0);
            due("run()", x.run(), 1);
            x.back(0);
            due("run()", x.run(), 2);
            has(x, 0, 1);
            has(x, 1, 0);
        });
        sentence("11: All is as it was: woken() too", () -> {
            Counted x = new Counted(2, 3);
            watcher(x, 0);
            x.mark();
            due("run()", x.run(), 0);
            due("woken()", x.woken(), 1);
            x.back(0);
            due("woken() before any run", x.woken(), 0);
        });
        sentence("11: All is as it was: over all the marks at once", PromiseEdgesTest::backOverAll);
        sentence("11: that one does not stand any more", () -> {
            Counted x = new Counted(1, 3);
            x.mark();
            due("back(0)", x.back(0), true);
            x.take(0, 0);
            due("back(0) again", x.back(0), false);
            has(x, 0, 6);
        });
        sentence("11: and later ones do not stand any more, earlier ones do", PromiseEdgesTest::backLaterOnes);
        sentence("11: false when it does not stand: too small", () -> {
            Counted x = new Counted(1, 3);
            x.mark();
            x.take(0, 0);
            int[] none = {-1, -2, -20, MIN, MIN + 1};
            for (int mark : none) {
                due("back(" + mark + ")", x.back(mark), false);
                has(x, 0, 6);
            }
            due("the mark stands still", x.mark(), 1);
        });
        sentence("11: false when it does not stand: too large", () -> {
            Counted x = new Counted(1, 3);
            x.mark();
            x.take(0, 0);
            int[] none = {1, 2, 19, 20, 21, 32, 64, 1 << 16, MAX};
            for (int mark : none) {
                due("back(" + mark + ")", x.back(mark), false);
                has(x, 0, 6);
            }
            due("the mark stands still", x.mark(), 1);
        });
        sentence("11: false when it does not stand: none does", () -> {
            Counted x = new Counted(1, 3);
            x.take(0, 0);
            due("back(0)", x.back(0), false);
            has(x, 0, 6);
        });
        sentence("11: a refused back() leaves the row and the order told", () -> {
            Counted x = new Counted(2, 3);
            watcher(x, 0);
            watcher(x, 1);
            x.mark();
            x.run();
            x.take(1, 0);
            due("back(1)", x.back(1), false);
            told(x, 0, 1);
            runs(x, 0, 1);
        });
    }

    private static void backFromEmpty() {
        Counted x = new Counted(3, 2);
        ruleOf(x, 1, 0, 0, 0, 0);
        x.set(2, 1);
        x.mark();
        x.set(0, 0);
        runs(x, 1, 0);
        has(x, 0, 0);
        has(x, 1, 0);
        has(x, 2, 0);
        x.back(0);
        has(x, 0, 3);
        has(x, 1, 3);
        has(x, 2, 2);
        runs(x, 0, 0);
        has(x, 0, 2);
        has(x, 1, 2);
    }

    private static void backOverAll() {
        Counted x = new Counted(1, 60);
        watcher(x, 0);
        x.run();
        for (int number = 0; number < 20; number++) {
            due("mark()", x.mark(), number);
            x.take(0, 2 * number);
            x.take(0, 2 * number + 1);
            x.run();
        }
        has(x, 0, span(40, 59));
        due("back(19)", x.back(19), true);
        has(x, 0, span(38, 59));
        due("back(10)", x.back(10), true);
        has(x, 0, span(20, 59));
        due("back(0)", x.back(0), true);
        has(x, 0, span(0, 59));
        due("run()", x.run(), 0);
        due("woken()", x.woken(), 0);
    }

    private static void backLaterOnes() {
        Counted x = new Counted(1, 30);
        for (int number = 0; number < 5; number++) {
            x.mark();
            x.take(0, number);
        }
        due("back(2)", x.back(2), true);
        due("back(4)", x.back(4), false);
        due("back(3)", x.back(3), false);
        due("back(2)", x.back(2), false);
        has(x, 0, span(2, 29));
        x.take(0, 20);
        due("mark()", x.mark(), 2);
        x.take(0, 21);
        due("back(3)", x.back(3), false);
        due("back(2)", x.back(2), true);
        has(x, 0, span(2, 29) - bits(20));
        due("back(1)", x.back(1), true);
        has(x, 0, span(1, 29));
        due("back(0)", x.back(0), true);
        has(x, 0, span(0, 29));
    }

    // ---- Promise 12

    private static void woken() {
        sentence("12: 0 before", () -> {
            Counted x = new Counted(2, 3);
            due("woken()", x.woken(), 0);
            watcher(x, 0);
            x.take(0, 0);
            due("woken()", x.woken(), 0);
        });
        sentence("12: How many times rules TOOK (also nothing)", () -> {
            Counted x = new Counted(4, 3);
            watcher(x, 0);
            ruleOf(x, 6, 1, 0);
            ruleOf(x, 7, 0, 0, 0, 0);
            x.rule(7, 0);
            x.table(3, 0, 0);
            runs(x, 0, 0, 1, 2, 3);
        });
        sentence("12: How many times: a rule counts each time", () -> {
            Counted x = new Counted(2, 10);
            ruleOf(x, 2, 9, 2, 3);
            ruleOf(x, 2, 2, 1, -1);
            due("run()", x.run(), 0);
            due("woken() is above the number of rules", x.woken() > 2, true);
            for (int k = 0; k < x.woken(); k++) {
                due("order(" + k + "), by turns", x.order(k), k % 2);
            }
        });
        sentence("12: in the latest run(), which may be without any", () -> {
            Counted x = new Counted(2, 3);
            watcher(x, 0);
            watcher(x, 1);
            runs(x, 0, 0, 1);
            x.take(1, 0);
            due("woken() of the run before", x.woken(), 2);
            runs(x, 0, 1);
            runs(x, 0);
        });
        sentence("12: in the latest run(), which a place without candidates stopped at once", () -> {
            Counted x = new Counted(2, 1);
            watcher(x, 0);
            runs(x, 0, 0);
            x.take(1, 0);
            x.rule(3, 0);
            x.into(1, 0, 0);
            runs(x, 2);
        });
        sentence("12: more than a thousand are counted too", () -> {
            Counted x = turns();
            due("run()", x.run(), 1);
            due("woken()", x.woken(), 1801);
        });
    }

    /**
     * Rule 0 asks that place 0 is below place 1, rule 1 the contrary: each time one or two candidates
     * go of each place, until after 15 turns rule 0 finds no way. All 118 others watch place 0, so that the
     * row is full all the time and the rules take by turns: 0, 1, .., 119, 0, 1, .., 119, 0, ..
     */
    private static Counted turns() {
        Counted x = new Counted(2, 60);
        x.rule(5, 0);
        x.into(0, 0, 0);
        x.into(0, 1, 0);
        x.rule(5, 0);
        x.into(1, 1, 0);
        x.into(1, 0, 0);
        for (int number = 2; number < 120; number++) {
            watcher(x, 0);
        }
        return x;
    }

    // ---- Promise 13

    private static void order() {
        sentence("13: The k-th rule (from 0 on)", () -> {
            Counted x = new Counted(3, 3);
            watcher(x, 0);
            watcher(x, 1);
            watcher(x, 2);
            x.run();
            x.take(2, 0);
            x.take(0, 0);
            x.take(1, 0);
            runs(x, 0, 2, 0, 1);
        });
        sentence("13: -1 when there is none such: before any run()", () -> {
            Counted x = new Counted(3, 3);
            watcher(x, 0);
            due("order(0)", x.order(0), -1);
            due("order(1)", x.order(1), -1);
        });
        sentence("13: -1 when there is none such: k too large", () -> {
            Counted x = new Counted(3, 3);
            watcher(x, 0);
            watcher(x, 1);
            x.run();
            due("order(1)", x.order(1), 1);
            int[] none = {2, 3, 119, 120, 999, 1000, 1001, 1024, 1 << 16, 1 << 30, MAX};
            for (int k : none) {
                due("order(" + k + ")", x.order(k), -1);
            }
        });
        sentence("13: -1 when there is none such: k too small", () -> {
            Counted x = new Counted(3, 3);
            watcher(x, 0);
            x.run();
            int[] none = {-1, -2, -1000, MIN, MIN + 1};
            for (int k : none) {
                due("order(" + k + ")", x.order(k), -1);
            }
        });
        sentence("13: -1 when there is none such: of an earlier run() alone", () -> {
            Counted x = new Counted(3, 3);
            watcher(x, 0);
            watcher(x, 1);
            x.run();
            x.take(1, 0);
            runs(x, 0, 1);
            due("order(1)", x.order(1), -1);
            runs(x, 0);
            due("order(0)", x.order(0), -1);
        });
        sentence("13: -1 when k is above 999, though more TOOK", PromiseEdgesTest::orderAboveMost);
        sentence("13: more than a thousand are kept by a mark too", PromiseEdgesTest::orderKept);
    }

    private static void orderAboveMost() {
        Counted x = turns();
        due("run()", x.run(), 1);
        int[] some = {0, 1, 2, 117, 118, 119, 120, 121, 239, 240, 500, 900, 960, 997, 998, 999};
        for (int k : some) {
            due("order(" + k + ")", x.order(k), k % 120);
        }
        int[] none = {1000, 1001, 1002, 1023, 1024, 1799, 1800, 1801, 1802, MAX};
        for (int k : none) {
            due("order(" + k + ")", x.order(k), -1);
        }
    }

    private static void orderKept() {
        Counted x = turns();
        x.mark();
        due("run()", x.run(), 1);
        x.mark();
        due("run()", x.run(), 1);
        due("woken()", x.woken(), 0);
        x.back(1);
        due("woken()", x.woken(), 1801);
        due("order(0)", x.order(0), 0);
        due("order(999)", x.order(999), 39);
        due("order(1000)", x.order(1000), -1);
        x.back(0);
        due("woken()", x.woken(), 0);
        due("order(999)", x.order(999), -1);
        due("run()", x.run(), 1);
        due("woken()", x.woken(), 1801);
        due("order(999)", x.order(999), 39);
    }
}
