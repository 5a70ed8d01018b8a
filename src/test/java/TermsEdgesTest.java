/** 'What it is' and 'Terms' but for the kinds: each sentence, or part of one, that names an edge has its test. */
public final class TermsEdgesTest extends Sentences {
    public static void main(String[] args) {
        whatItIs();
        places();
        rules();
        row();
        running();
        reasons();
        end();
    }

    // ---- What it is

    private static void whatItIs() {
        sentence("rules take away candidates until nothing more goes", () -> {
            Counted x = new Counted(3, 3);
            ruleOf(x, 5, 0, 0, 0);
            x.rule(5, 0);
            x.into(1, 1, 0);
            x.into(1, 2, 0);
            runs(x, 0, 0, 1, 0);
            has(x, 0, 1);
            has(x, 1, 2);
            has(x, 2, 4);
            runs(x, 0);
        });
        sentence("at most 512 calls: the 512th is answered, with as many pairs as there may be", () -> {
            Counted x = new Counted(2, 60);
            ruleOf(x, 7, 0, 0, 0);
            for (int pair = 0; pair < 400; pair++) {
                x.table(0, pair % 20 + 40, pair / 20);
            }
            askUntil(x, 2);
            due("run()", x.run(), 0);
            due("candidates(0), the 512th call", x.candidates(0), span(40, 59));
            due("it was the 512th", x.callsLeft(), 0);
        });
        sentence("at most 512 calls: the 512th is answered, with as many takes as there may be", () -> {
            Counted x = new Counted(128, 60);
            x.mark();
            for (int i = 0; i < 508; i++) {
                due("take", x.take(i % 128, i / 128), true);
            }
            due("the last place", x.candidates(127), span(3, 59));
            due("back(0)", x.back(0), true);
            due("candidates(127), the 512th call", x.candidates(127), span(0, 59));
            due("it was the 512th", x.callsLeft(), 0);
        });
        sentence("at most 512 calls: the 512th is answered, with as many marks as there may be", () -> {
            Counted x = new Counted(1, 60);
            watcher(x, 0);
            for (int i = 0; i < 170; i++) {
                due("mark()", x.mark(), 0);
                due("take(0, 59)", x.take(0, 59), true);
                due("back(0), at last the 512th call", x.back(0), true);
            }
            due("it was the 512th", x.callsLeft(), 0);
        });
        sentence("at most 512 calls: the 512th is answered, with as many runs as there may be", () -> {
            Counted x = new Counted(2, 2);
            watcher(x, 0);
            for (int i = 0; i < 254; i++) {
                due("run()", x.run(), 0);
                due("woken()", x.woken(), i == 0 ? 1 : 0);
            }
            x.take(0, 0);
            due("run(), the 512th call", x.run(), 0);
            due("it was the 512th", x.callsLeft(), 0);
        });
    }

    private static void askUntil(Counted x, int left) {
        while (x.callsLeft() > left) {
            due("woken()", x.woken(), 0);
        }
    }

    // ---- places and symbols

    private static void places() {
        sentence("PLACES 0 .. places - 1", () -> {
            Counted x = new Counted(5, 2);
            has(x, -1, -1);
            has(x, 0, 3);
            has(x, 4, 3);
            has(x, 5, -1);
        });
        sentence("SYMBOLS 0 .. symbols - 1", () -> {
            Counted x = new Counted(1, 5);
            due("set(0, -1)", x.set(0, -1), false);
            due("set(0, 5)", x.set(0, 5), false);
            due("take(0, 0)", x.take(0, 0), true);
            due("take(0, 4)", x.take(0, 4), true);
        });
        sentence("a place's CANDIDATES are at first all symbols", () -> {
            for (int symbols = 1; symbols <= 60; symbols++) {
                has(new Counted(1, symbols), 0, span(0, symbols - 1));
            }
            Counted x = new Counted(128, 60);
            for (int place = 0; place < 128; place++) {
                has(x, place, span(0, 59));
            }
        });
    }

    // ---- what a rule has

    private static void rules() {
        sentence("A RULE has places, each once", () -> {
            Counted x = new Counted(2, 3);
            x.rule(1, 0);
            due("into(0, 1, 0)", x.into(0, 1, 0), true);
            due("into(0, 1, 0) again", x.into(0, 1, 0), false);
            due("into(0, 1, 1), with another factor", x.into(0, 1, 1), false);
            x.rule(1, 0);
            due("into(1, 1, 0), another rule", x.into(1, 1, 0), true);
        });
        sentence("A RULE has places in the order in which they came", () -> {
            Counted x = new Counted(128, 2);
            x.rule(1, 0);
            for (int i = 0; i < 16; i++) {
                x.into(0, 127 - i * 8, 0);
            }
            x.take(127, 0);
            x.run();
            for (int k = 1; k <= 16; k++) {
                due("reason(119, 0, " + k + ")", x.reason(119, 0, k), 127 - (k - 1) * 8);
            }
        });
        sentence("A RULE has places, each with a FACTOR", () -> {
            Counted x = new Counted(3, 60);
            ruleOf(x, 4, 3, 59, 0, 30);
            runs(x, 0, 0);
            has(x, 0, bits(59));
            has(x, 1, bits(0));
            has(x, 2, bits(30));
        });
        sentence("Rules are numbered from 0 on, at most 120", () -> {
            Counted x = new Counted(1, 1);
            for (int number = 0; number < 120; number++) {
                due("rule(" + number % 8 + ", 0)", x.rule(number % 8, 0), number);
            }
            due("rule(0, 0), the 121st", x.rule(0, 0), -1);
        });
        sentence("a rule has at most 16 places", () -> {
            Counted x = new Counted(128, 2);
            x.rule(1, 0);
            for (int i = 0; i < 16; i++) {
                due("place " + i, x.into(0, 127 - i, 0), true);
            }
            due("a 17th", x.into(0, 0, 0), false);
            x.take(127, 1);
            x.run();
            has(x, 112, 1);
            has(x, 111, 3);
            has(x, 0, 3);
        });
        sentence("A RULE TAKES of its own places", () -> {
            for (int kind = 0; kind < 8; kind++) {
                Counted x = new Counted(4, 1);
                x.rule(kind, 17);
                x.into(0, 1, 1);
                x.into(0, 2, 1);
                due("run() of kind " + kind, x.run(), kind == 1 || kind == 3 ? 0 : 2);
                has(x, 0, 1);
                has(x, 3, 1);
            }
        });
        sentence("from the candidates as they are when it begins, all at once", () -> {
            Counted x = new Counted(2, 10);
            ruleOf(x, 2, 9, 2, 3);
            runs(x, 0, 0);
            has(x, 0, span(0, 4));
            has(x, 1, span(0, 3));
            Counted y = new Counted(2, 10);
            y.rule(2, 9);
            y.into(0, 1, 3);
            y.into(0, 0, 2);
            runs(y, 0, 0);
            has(y, 0, span(0, 4));
            has(y, 1, span(0, 3));
        });
    }

    // ---- the row

    private static void row() {
        sentence("THE ROW is of rules that wait, each once", () -> {
            Counted x = new Counted(3, 3);
            x.rule(3, 1_000_000);
            x.rule(3, 1_000_000);
            x.into(1, 0, 0);
            x.into(0, 1, 0);
            x.into(1, 1, 0);
            x.into(1, 2, 0);
            x.take(0, 0);
            x.take(1, 0);
            x.set(2, 1);
            runs(x, 0, 1, 0);
        });
        sentence("A rule comes to its end", () -> {
            Counted x = new Counted(3, 3);
            watcher(x, 2);
            watcher(x, 1);
            watcher(x, 0);
            x.run();
            x.take(0, 0);
            x.take(2, 0);
            x.take(1, 0);
            x.take(0, 1);
            runs(x, 0, 2, 0, 1);
        });
        sentence("comes when a place comes into it, at each time", () -> {
            Counted x = new Counted(16, 2);
            x.rule(3, 1_000_000);
            runs(x, 0);
            for (int place = 0; place < 16; place++) {
                x.into(0, place, 0);
                runs(x, 0, 0);
            }
            runs(x, 0);
        });
        sentence("comes when a PAIR comes to it, at each time", () -> {
            Counted x = new Counted(1, 10);
            x.rule(7, 0);
            x.rule(7, 0);
            for (int i = 0; i < 10; i++) {
                x.table(1, i, 9 - i);
                runs(x, 0, 1);
            }
            runs(x, 0);
            x.table(1, 0, 0);
            x.table(0, 0, 0);
            runs(x, 0, 1, 0);
        });
        sentence("in the order of their numbers, the rules of a place, all 120 of them", TermsEdgesTest::allRulesWake);
        sentence("in the order of their numbers, all but the rule itself, all 119 of them", () -> {
            int[] takers = {0, 1, 58, 59, 60, 61, 118, 119};
            for (int taker : takers) {
                allOthersWake(taker);
            }
        });
        sentence("of a place of which a candidate went, of no other place", () -> {
            Counted x = new Counted(128, 2);
            watcher(x, 0, 127);
            watcher(x, 1);
            watcher(x, 126);
            x.run();
            x.take(63, 0);
            x.take(64, 0);
            runs(x, 0);
            x.take(127, 0);
            runs(x, 0, 0);
            x.take(126, 0);
            runs(x, 0, 2);
        });
        sentence("by set(), when a candidate went", () -> {
            Counted x = new Counted(1, 3);
            watcher(x, 0);
            x.run();
            x.set(0, 2);
            runs(x, 0, 0);
            x.set(0, 2);
            runs(x, 0);
        });
        sentence("all but the rule itself that took it", TermsEdgesTest::notItself);
        sentence("a row that is full", TermsEdgesTest::fullRow);
        sentence("a row that went round many times", TermsEdgesTest::roundAndRound);
    }

    private static void allRulesWake() {
        Counted x = new Counted(2, 3);
        for (int number = 0; number < 120; number++) {
            x.rule(3, 1_000_000);
        }
        for (int number = 119; number >= 0; number--) {
            x.into(number, 1, 0);
        }
        x.run();
        due("woken()", x.woken(), 120);
        due("the first, as they came", x.order(0), 119);
        due("the last, as they came", x.order(119), 0);
        x.take(1, 2);
        x.run();
        due("woken()", x.woken(), 120);
        for (int k = 0; k < 120; k++) {
            due("order(" + k + ")", x.order(k), k);
        }
    }

    private static void allOthersWake(int taker) {
        Counted x = new Counted(2, 3);
        for (int number = 0; number < 120; number++) {
            x.rule(number == taker ? 1 : 3, 1_000_000);
        }
        x.into(taker, 0, 0);
        for (int number = 119; number >= 0; number--) {
            x.into(number, 1, 0);
        }
        x.run();
        x.take(0, 2);
        x.run();
        due("woken()", x.woken(), 120);
        due("order(0)", x.order(0), taker);
        for (int k = 1; k < 120; k++) {
            due("order(" + k + ") after " + taker, x.order(k), k <= taker ? k - 1 : k);
        }
    }

    private static void notItself() {
        Counted x = new Counted(3, 10);
        watcher(x, 2);
        ruleOf(x, 2, 9, 2, 3, 0);
        watcher(x, 0);
        runs(x, 0, 0, 1, 2);
        x.take(0, 0);
        runs(x, 0, 1, 2);
        has(x, 1, bits(1, 2));
        runs(x, 0);
        int[] kinds = {0, 1, 5, 6, 7};
        for (int kind : kinds) {
            Counted y = new Counted(2, 6);
            ruleOf(y, kind, 2, 0, 0);
            if (kind == 7) {
                y.table(0, 1, 2);
            }
            y.set(0, 1);
            runs(y, 0, 0);
            due("it took, kind " + kind, y.candidates(1) != 63, true);
            runs(y, 0);
        }
    }

    private static void fullRow() {
        Counted x = new Counted(3, 3);
        for (int number = 0; number < 120; number++) {
            watcher(x, number % 2);
        }
        x.take(1, 0);
        x.take(0, 0);
        due("run()", x.run(), 0);
        due("woken()", x.woken(), 120);
        for (int k = 0; k < 120; k++) {
            due("order(" + k + ")", x.order(k), k);
        }
        x.take(1, 1);
        x.take(0, 1);
        due("run()", x.run(), 0);
        due("woken()", x.woken(), 120);
        due("order(0)", x.order(0), 1);
        due("order(59)", x.order(59), 119);
        due("order(60)", x.order(60), 0);
        due("order(119)", x.order(119), 118);
    }

    /** 7 places of 1, 2, .. 7 rules: the row's first one stands at another spot each time. */
    private static void roundAndRound() {
        Counted x = new Counted(7, 12);
        for (int place = 0; place < 7; place++) {
            for (int i = 0; i <= place; i++) {
                watcher(x, place);
            }
        }
        x.run();
        for (int symbol = 0; symbol < 11; symbol++) {
            x.take(6, symbol);
            x.take(symbol % 6, symbol);
            int others = symbol % 6 + 1;
            due("run()", x.run(), 0);
            due("woken()", x.woken(), 7 + others);
            due("the first", x.order(0), 21);
            due("the last of place 6", x.order(6), 27);
            due("the first of the other one", x.order(7), others * (others - 1) / 2);
            due("the last of the other one", x.order(6 + others), others * (others + 1) / 2 - 1);
            due("no more", x.order(7 + others), -1);
        }
    }

    // ---- run

    private static void running() {
        sentence("as long as no place is without candidates: also one of no rule", () -> {
            Counted x = new Counted(3, 2);
            ruleOf(x, 1, 0, 0, 0);
            x.take(0, 0);
            x.mark();
            x.take(2, 0);
            x.take(2, 1);
            runs(x, 3);
            has(x, 1, 3);
            runs(x, 3);
            x.back(0);
            runs(x, 0, 0);
            has(x, 1, 2);
        });
        sentence("as long as no place is without candidates: it stops when one comes to be so", () -> {
            Counted x = new Counted(4, 2);
            watcher(x, 0);
            x.rule(1, 0);
            x.into(1, 1, 0);
            x.into(1, 2, 0);
            x.rule(1, 0);
            x.into(2, 0, 0);
            x.into(2, 3, 0);
            x.take(3, 0);
            x.set(1, 0);
            x.set(2, 1);
            runs(x, 2, 0, 1);
            has(x, 0, 3);
            runs(x, 2);
            has(x, 0, 3);
        });
        sentence("and some rule waits: when none does, nothing goes", () -> {
            Counted x = new Counted(2, 2);
            ruleOf(x, 1, 0, 0, 0);
            runs(x, 0, 0);
            runs(x, 0);
            has(x, 0, 3);
        });
        sentence("the first one goes out of the row, and may come again in the same run", () -> {
            Counted x = new Counted(2, 10);
            ruleOf(x, 2, 9, 2, 3);
            ruleOf(x, 2, 2, 1, -1);
            runs(x, 0, 0, 1, 0, 1, 0);
            has(x, 0, bits(3));
            has(x, 1, bits(1));
        });
        sentence("then the rules of places that lost some: first all those of the first such place", TermsEdgesTest::placeByPlace);
        sentence("of places that lost some: not of those that lost none", () -> {
            Counted x = new Counted(3, 4);
            x.rule(1, 0);
            watcher(x, 0);
            watcher(x, 1);
            watcher(x, 2);
            x.run();
            x.into(0, 0, 0);
            x.into(0, 1, 0);
            x.into(0, 2, 0);
            x.run();
            x.mark();
            x.take(1, 0);
            runs(x, 0, 0, 2, 1, 3);
            x.back(0);
            x.take(0, 0);
            x.take(1, 0);
            runs(x, 0, 0, 1, 2, 3);
            x.back(0);
        });
        sentence("a rule that takes nothing wakes none", () -> {
            Counted x = new Counted(2, 3);
            watcher(x, 0);
            watcher(x, 0, 1);
            runs(x, 0, 0, 1);
        });
        sentence("rules that were woken by two places come at the first", TermsEdgesTest::byTwoPlaces);
    }

    private static void placeByPlace() {
        Counted x = new Counted(4, 4);
        watcher(x, 0);
        watcher(x, 2);
        watcher(x, 3);
        x.rule(1, 0);
        watcher(x, 0);
        watcher(x, 2);
        x.run();
        x.into(3, 2, 0);
        x.into(3, 3, 0);
        x.into(3, 0, 0);
        runs(x, 0, 3);
        x.set(3, 1);
        runs(x, 0, 2, 3, 1, 5, 0, 4);
    }

    private static void byTwoPlaces() {
        Counted x = new Counted(3, 4);
        watcher(x, 1);
        watcher(x, 2, 1);
        watcher(x, 2);
        x.rule(1, 0);
        x.run();
        x.into(3, 0, 0);
        x.into(3, 2, 0);
        x.into(3, 1, 0);
        x.run();
        x.take(0, 3);
        runs(x, 0, 3, 1, 2, 0);
    }

    // ---- reasons

    private static void reasons() {
        sentence("A candidate that a rule took has that rule as REASON, all that it took", () -> {
            Counted x = new Counted(3, 60);
            x.rule(3, 0);
            x.rule(3, -1);
            x.into(1, 2, 1);
            x.into(1, 0, 1);
            runs(x, 1, 1);
            for (int symbol = 0; symbol < 60; symbol++) {
                due("reason(0, " + symbol + ", 0)", x.reason(0, symbol, 0), 1);
                due("reason(2, " + symbol + ", 0)", x.reason(2, symbol, 0), 1);
                due("reason(1, " + symbol + ", 0)", x.reason(1, symbol, 0), -1);
            }
        });
        sentence("that rule: the first of two that would have taken it", () -> {
            Counted x = new Counted(2, 3);
            ruleOf(x, 1, 0, 0, 0);
            ruleOf(x, 1, 0, 0, 0);
            x.take(0, 1);
            runs(x, 0, 0, 1);
            due("reason(1, 1, 0)", x.reason(1, 1, 0), 0);
        });
        sentence("one that take() or set() took has none", () -> {
            Counted x = new Counted(1, 60);
            watcher(x, 0);
            x.take(0, 59);
            x.set(0, 0);
            x.run();
            for (int symbol = 0; symbol < 60; symbol++) {
                due("reason(0, " + symbol + ", 0)", x.reason(0, symbol, 0), -1);
                due("reason(0, " + symbol + ", 1)", x.reason(0, symbol, 1), -1);
            }
        });
    }
}
