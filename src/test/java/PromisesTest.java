/** For each promise of the document: ordinary inputs, the edges that it names, and wrong inputs. */
public final class PromisesTest extends Sentences {
    public static void main(String[] args) {
        sentence("promise 1", PromisesTest::newObject);
        sentence("promise 2", PromisesTest::rule);
        sentence("promise 3", PromisesTest::into);
        sentence("promise 4", PromisesTest::table);
        sentence("promise 5", PromisesTest::take);
        sentence("promise 6", PromisesTest::set);
        sentence("promise 7", PromisesTest::run);
        sentence("promise 8", PromisesTest::candidates);
        sentence("promise 9", PromisesTest::reason);
        sentence("promise 10", PromisesTest::mark);
        sentence("promise 11", PromisesTest::back);
        sentence("promise 12", PromisesTest::woken);
        sentence("promise 13", PromisesTest::order);
        sentence("kind 0", PromisesTest::unlike);
        sentence("kind 1", PromisesTest::equal);
        sentence("kind 2", PromisesTest::sum);
        sentence("kind 3", PromisesTest::atMost);
        sentence("kind 4", PromisesTest::count);
        sentence("kind 5", PromisesTest::rising);
        sentence("kind 6", PromisesTest::apart);
        sentence("kind 7", PromisesTest::tableRules);
        end();
    }

    private static void intoAll(Counted x, int rule, long... factors) {
        for (int place = 0; place < factors.length; place++) {
            due("into(" + rule + ", " + place + ", " + factors[place] + ")",
                    x.into(rule, place, factors[place]), true);
        }
    }

    private static void newObject() {
        sizes(1, 1, 1, 1);
        sizes(128, 60, 128, 60);
        sizes(129, 61, 128, 60);
        sizes(0, 0, 1, 1);
        sizes(-5, -5, 1, 1);
        sizes(Integer.MAX_VALUE, Integer.MAX_VALUE, 128, 60);
        sizes(Integer.MIN_VALUE, Integer.MIN_VALUE, 1, 1);
        sizes(7, 5, 7, 5);
        Counted x = new Counted(3, 3);
        due("no rules: into", x.into(0, 0, 0), false);
        due("no marks: back", x.back(0), false);
        due("woken()", x.woken(), 0);
        due("order(0)", x.order(0), -1);
        due("run()", x.run(), 0);
        due("first rule", x.rule(0, 0), 0);
        due("first mark", x.mark(), 0);
    }

    private static void sizes(int places, int symbols, int havePlaces, int haveSymbols) {
        Counted x = new Counted(places, symbols);
        String made = "(" + places + ", " + symbols + ") ";
        due(made + "first place", x.candidates(0), (1L << haveSymbols) - 1);
        due(made + "last place", x.candidates(havePlaces - 1), (1L << haveSymbols) - 1);
        due(made + "after the last place", x.candidates(havePlaces), -1);
        due(made + "last symbol", x.take(0, haveSymbols - 1), true);
        due(made + "after the last symbol", x.take(0, haveSymbols), false);
    }

    private static void rule() {
        Counted x = new Counted(2, 2);
        due("kind -1", x.rule(-1, 0), -1);
        due("kind 8", x.rule(8, 0), -1);
        due("kind MIN", x.rule(Integer.MIN_VALUE, 0), -1);
        due("kind MAX", x.rule(Integer.MAX_VALUE, 0), -1);
        due("right -1000001", x.rule(0, -1_000_001L), -1);
        due("right 1000001", x.rule(0, 1_000_001L), -1);
        due("right MIN", x.rule(2, Long.MIN_VALUE), -1);
        due("right MAX", x.rule(2, Long.MAX_VALUE), -1);
        due("right 2^32", x.rule(2, 1L << 32), -1);
        due("right -1000000", x.rule(2, -1_000_000L), 0);
        due("right 1000000", x.rule(2, 1_000_000L), 1);
        for (int number = 2; number < 120; number++) {
            due("rule " + number, x.rule(number % 8, 0), number);
            if (number == 50) {
                x.mark();
                due("a mark stands", x.rule(0, 0), -1);
                x.mark();
                x.back(1);
                due("a mark stands still", x.rule(0, 0), -1);
                x.back(0);
            }
        }
        due("the 121st rule", x.rule(0, 0), -1);
        due("run()", x.run(), 0);
        due("rules without places do not wait", x.woken(), 0);
        due("into the last rule", x.into(119, 0, 0), true);
        due("into none", x.into(120, 0, 0), false);
    }

    private static void into() {
        Counted x = new Counted(20, 3);
        due("no rule yet", x.into(0, 0, 0), false);
        x.rule(3, 1000);
        due("rule -1", x.into(-1, 0, 0), false);
        due("rule 1", x.into(1, 0, 0), false);
        due("rule MAX", x.into(Integer.MAX_VALUE, 0, 0), false);
        due("place -1", x.into(0, -1, 0), false);
        due("place 20", x.into(0, 20, 0), false);
        due("place MIN", x.into(0, Integer.MIN_VALUE, 0), false);
        due("factor -1001", x.into(0, 0, -1001), false);
        due("factor 1001", x.into(0, 0, 1001), false);
        due("factor 2^32", x.into(0, 0, 1L << 32), false);
        due("factor MIN", x.into(0, 0, Long.MIN_VALUE), false);
        x.run();
        due("nothing was done", x.woken(), 0);
        due("factor -1000", x.into(0, 19, -1000), true);
        due("factor 1000", x.into(0, 18, 1000), true);
        due("again", x.into(0, 18, 1), false);
        x.mark();
        due("a mark stands", x.into(0, 17, 0), false);
        x.back(0);
        for (int place = 17; place > 3; place--) {
            due("place " + place, x.into(0, place, 0), true);
        }
        due("a 17th place", x.into(0, 3, 0), false);
        x.run();
        due("it waits once", x.woken(), 1);
        due("into does not wake a second time", x.into(0, 2, 0), false);
        x.run();
        due("nothing waits", x.woken(), 0);
        x.rule(3, 0);
        x.rule(3, 0);
        x.into(2, 0, 0);
        x.into(1, 0, 0);
        x.into(2, 1, 0);
        x.run();
        due("in the order in which they came, first", x.order(0), 2);
        due("in the order in which they came, second", x.order(1), 1);
        due("each once", x.woken(), 2);
    }

    private static void table() {
        Counted x = new Counted(3, 60);
        x.rule(7, 0);
        x.rule(6, 0);
        due("no such rule", x.table(2, 0, 0), false);
        due("rule -1", x.table(-1, 0, 0), false);
        due("another kind", x.table(1, 0, 0), false);
        due("a -1", x.table(0, -1, 0), false);
        due("b -1", x.table(0, 0, -1), false);
        due("a 60", x.table(0, 60, 0), false);
        due("b 60", x.table(0, 0, 60), false);
        due("b 64", x.table(0, 0, 64), false);
        due("a MAX", x.table(0, Integer.MAX_VALUE, 0), false);
        x.run();
        due("nothing was done", x.woken(), 0);
        due("a pair", x.table(0, 59, 58), true);
        due("the pair again", x.table(0, 59, 58), false);
        due("the pair turned round", x.table(0, 58, 59), true);
        x.run();
        due("a pair wakes the rule, also without places", x.woken(), 1);
        due("which is", x.order(0), 0);
        due("it has the pair", x.table(0, 59, 58), false);
        x.mark();
        due("a mark stands", x.table(0, 0, 0), false);
        x.run();
        due("nothing waits", x.woken(), 0);
        x.back(0);
        for (int pair = 0; pair < 398; pair++) {
            due("pair " + pair, x.table(0, pair / 20, pair % 20), true);
        }
        due("pair 401", x.table(0, 30, 30), false);
        Counted y = new Counted(3, 4);
        y.rule(7, 0);
        due("a 4 of 4", y.table(0, 4, 0), false);
        due("b 4 of 4", y.table(0, 0, 4), false);
        due("3, 3 of 4", y.table(0, 3, 3), true);
    }

    private static void take() {
        Counted x = new Counted(3, 4);
        due("place -1", x.take(-1, 0), false);
        due("place 3", x.take(3, 0), false);
        due("place MIN", x.take(Integer.MIN_VALUE, 0), false);
        due("symbol -1", x.take(0, -1), false);
        due("symbol 4", x.take(0, 4), false);
        due("symbol 64", x.take(0, 64), false);
        due("symbol MAX", x.take(0, Integer.MAX_VALUE), false);
        due("nothing went", x.candidates(0), 15);
        due("take", x.take(1, 2), true);
        due("again", x.take(1, 2), false);
        due("one went", x.candidates(1), bits(0, 1, 3));
        due("of no other place", x.candidates(0), 15);
        Counted y = new Counted(3, 4);
        y.rule(3, 1000);
        y.rule(3, 1000);
        y.rule(3, 1000);
        y.into(2, 0, 1);
        y.into(1, 1, 1);
        y.into(0, 0, 1);
        y.run();
        due("order", y.order(0) * 100 + y.order(1) * 10 + y.order(2), 210);
        y.take(1, 0);
        y.take(0, 0);
        y.run();
        due("rules wake by place, then by number", y.order(0) * 100 + y.order(1) * 10 + y.order(2), 102);
        y.take(0, 0);
        y.take(2, 1);
        y.run();
        due("what was no candidate, or a place of no rule, wakes none", y.woken(), 0);
        due("the last ones", y.take(0, 1) && y.take(0, 2) && y.take(0, 3), true);
        due("none is left", y.candidates(0), 0);
        due("a place is empty", y.run(), 1);
    }

    private static void set() {
        Counted x = new Counted(3, 60);
        x.rule(3, 1_000_000);
        x.into(0, 0, 1);
        x.run();
        due("place -1", x.set(-1, 0), false);
        due("place 3", x.set(3, 0), false);
        due("symbol -1", x.set(0, -1), false);
        due("symbol 60", x.set(0, 60), false);
        due("symbol 64", x.set(0, 64), false);
        x.take(0, 7);
        x.run();
        due("no candidate", x.set(0, 7), false);
        due("did nothing", x.candidates(0), ((1L << 60) - 1) ^ bits(7));
        x.run();
        due("woke none", x.woken(), 0);
        due("set", x.set(0, 59), true);
        due("one is left", x.candidates(0), bits(59));
        due("of no other place", x.candidates(1), (1L << 60) - 1);
        x.run();
        due("woke one", x.woken(), 1);
        due("set again", x.set(0, 59), true);
        x.run();
        due("nothing went, so none wakes", x.woken(), 0);
        due("reason of set", x.reason(0, 3, 0), -1);
    }

    private static void run() {
        Counted x = new Counted(5, 3);
        due("nothing to do", x.run(), 0);
        x.rule(1, 0);
        intoAll(x, 0, 0, 0, 0, 0, 0);
        x.set(3, 1);
        x.set(4, 2);
        due("all empty: the least place", x.run(), 1);
        due("empty", x.candidates(2), 0);
        Counted y = new Counted(5, 3);
        y.rule(1, 0);
        y.into(0, 4, 0);
        y.into(0, 2, 0);
        y.set(4, 0);
        y.set(2, 1);
        due("the least place, not the rule's first", y.run(), 3);
        y.rule(1, 0);
        y.into(1, 0, 0);
        due("no rule takes while a place is empty", y.run(), 3);
        due("none took", y.woken(), 0);
        y.mark();
        y.back(0);
        due("still", y.run(), 3);
        wakingOrder();
        notItself();
    }

    private static void wakingOrder() {
        Counted x = new Counted(4, 4);
        for (int number = 0; number < 6; number++) {
            x.rule(number == 3 ? 1 : 3, 1000);
        }
        x.into(5, 2, 0);
        x.into(4, 0, 0);
        x.into(1, 2, 0);
        x.into(0, 0, 0);
        x.into(2, 3, 0);
        x.run();
        x.into(3, 2, 0);
        x.into(3, 3, 0);
        x.into(3, 0, 0);
        x.run();
        x.set(3, 1);
        due("run", x.run(), 0);
        due("woken", x.woken(), 6);
        int[] want = {2, 3, 1, 5, 0, 4};
        for (int k = 0; k < want.length; k++) {
            due("first the rules of the rule's first place: order(" + k + ")", x.order(k), want[k]);
        }
    }

    private static void notItself() {
        Counted x = new Counted(2, 10);
        x.rule(2, 9);
        x.into(0, 0, 2);
        x.into(0, 1, 3);
        due("run", x.run(), 0);
        due("a rule does not wake itself", x.woken(), 1);
        due("2 v + .. = 9, at once", x.candidates(0), span(0, 4));
        due("3 v + .. = 9, at once", x.candidates(1), span(0, 3));
    }

    private static void candidates() {
        Counted x = new Counted(128, 60);
        due("place 0", x.candidates(0), 1152921504606846975L);
        due("place 127", x.candidates(127), 1152921504606846975L);
        due("place 128", x.candidates(128), -1);
        due("place -1", x.candidates(-1), -1);
        due("place MAX", x.candidates(Integer.MAX_VALUE), -1);
        due("place MIN", x.candidates(Integer.MIN_VALUE), -1);
        x.set(127, 59);
        due("bit 59", x.candidates(127), 1L << 59);
        x.take(127, 59);
        due("none", x.candidates(127), 0);
    }

    private static void reason() {
        Counted x = new Counted(6, 6);
        x.rule(3, 1000);
        x.rule(1, 0);
        x.into(1, 5, 0);
        x.into(1, 2, 0);
        x.into(1, 4, 0);
        x.take(2, 3);
        x.run();
        due("of what a rule took", x.reason(5, 3, 0), 1);
        due("its first place", x.reason(5, 3, 1), 5);
        due("its second place", x.reason(5, 3, 2), 2);
        due("its third place", x.reason(5, 3, 3), 4);
        due("no fourth place", x.reason(5, 3, 4), -1);
        due("k 16", x.reason(5, 3, 16), -1);
        due("k 17", x.reason(5, 3, 17), -1);
        due("k MAX", x.reason(5, 3, Integer.MAX_VALUE), -1);
        due("k -1", x.reason(5, 3, -1), -1);
        due("k MIN", x.reason(5, 3, Integer.MIN_VALUE), -1);
        due("of what take() took", x.reason(2, 3, 0), -1);
        due("of what take() took, k 1", x.reason(2, 3, 1), -1);
        due("of a candidate", x.reason(5, 2, 0), -1);
        due("place -1", x.reason(-1, 3, 0), -1);
        due("place 6", x.reason(6, 3, 0), -1);
        due("symbol -1", x.reason(5, -1, 0), -1);
        due("symbol 6", x.reason(5, 6, 0), -1);
        due("symbol 63", x.reason(5, 63, 0), -1);
        due("symbol 67", x.reason(4, 67, 0), -1);
        x.set(4, 0);
        due("of what set() took", x.reason(4, 1, 0), -1);
        due("as before", x.reason(4, 3, 0), 1);
        x.mark();
        x.run();
        due("set() led on", x.reason(5, 1, 0), 1);
        x.back(0);
        due("a candidate again", x.reason(5, 1, 0), -1);
        x.take(5, 1);
        due("taken otherwise", x.reason(5, 1, 0), -1);
        x.into(1, 0, 0);
        due("a place that came later", x.reason(5, 3, 4), 0);
    }

    private static void mark() {
        Counted x = new Counted(2, 30);
        for (int number = 0; number < 20; number++) {
            due("mark", x.mark(), number);
            x.take(0, number);
        }
        due("the 21st", x.mark(), -1);
        due("and again", x.mark(), -1);
        due("back to the 20th", x.back(19), true);
        due("candidates", x.candidates(0), span(19, 29));
        due("its number is free", x.mark(), 19);
        due("back to the fourth", x.back(3), true);
        due("candidates", x.candidates(0), span(3, 29));
        due("its number is free", x.mark(), 3);
        due("the next", x.mark(), 4);
    }

    private static void back() {
        Counted x = new Counted(4, 4);
        due("none stands", x.back(0), false);
        x.rule(1, 0);
        x.rule(5, 0);
        x.rule(3, 100);
        x.into(0, 0, 0);
        x.into(0, 1, 0);
        x.into(1, 2, 0);
        x.into(1, 3, 0);
        x.into(2, 0, 1);
        x.run();
        due("woken", x.woken(), 3);
        x.take(3, 3);
        x.take(0, 2);
        x.mark();
        due("back(-1)", x.back(-1), false);
        due("back(1)", x.back(1), false);
        due("back(MAX)", x.back(Integer.MAX_VALUE), false);
        due("back(MIN)", x.back(Integer.MIN_VALUE), false);
        due("run", x.run(), 0);
        due("woken", x.woken(), 3);
        due("order", x.order(0) * 100 + x.order(1) * 10 + x.order(2), 102);
        due("equal", x.candidates(1), bits(0, 1, 3));
        due("rising", x.candidates(2), bits(0, 1));
        x.mark();
        x.take(0, 0);
        x.take(0, 1);
        x.take(0, 3);
        due("empty", x.run(), 1);
        due("woken", x.woken(), 0);
        due("back to before it was empty", x.back(1), true);
        due("the later run is not told", x.woken(), 3);
        due("the earlier order is", x.order(0), 1);
        due("not empty", x.run(), 0);
        due("nothing waits", x.woken(), 0);
        due("back to the first", x.back(0), true);
        due("candidates", x.candidates(1), 15);
        due("candidates", x.candidates(2), bits(0, 1, 2));
        due("taken before the mark", x.candidates(0), bits(0, 1, 3));
        due("woken of the run before", x.woken(), 3);
        due("order of the run before", x.order(0) * 100 + x.order(1) * 10 + x.order(2), 12);
        due("it does not stand", x.back(0), false);
        due("the row is as it was", x.run(), 0);
        due("order", x.order(0) * 100 + x.order(1) * 10 + x.order(2), 102);
        due("a rule can come again", x.rule(0, 0), 3);
        beforeAnyRun();
        emptyBeforeMark();
    }

    private static void beforeAnyRun() {
        Counted x = new Counted(2, 2);
        x.rule(3, 100);
        x.into(0, 0, 1);
        x.mark();
        x.run();
        due("woken", x.woken(), 1);
        due("back", x.back(0), true);
        due("no run was before", x.woken(), 0);
        due("no order either", x.order(0), -1);
        x.run();
        due("it waits again", x.woken(), 1);
    }

    private static void emptyBeforeMark() {
        Counted x = new Counted(3, 2);
        x.take(1, 0);
        x.take(1, 1);
        x.mark();
        x.take(0, 0);
        x.take(0, 1);
        due("the least empty one", x.run(), 1);
        x.back(0);
        due("one is empty still", x.run(), 2);
    }

    private static void woken() {
        Counted x = new Counted(3, 5);
        due("before", x.woken(), 0);
        x.rule(6, 1);
        x.into(0, 0, 0);
        due("before a run", x.woken(), 0);
        x.run();
        due("one that took nothing", x.woken(), 1);
        x.run();
        due("the latest run alone", x.woken(), 0);
        x.take(0, 1);
        due("the latest run still", x.woken(), 0);
        x.run();
        due("woken by take()", x.woken(), 1);
    }

    /** A ring can't rise all the way round; mixed numbers make the rules slow to find that out. */
    private static void order() {
        Counted x = new Counted(100, 60);
        for (int number = 0; number < 100; number++) {
            x.rule(5, 0);
            int place = number * 37 % 100;
            x.into(number, place, 0);
            x.into(number, (place + 1) % 100, 0);
        }
        due("before", x.order(0), -1);
        due("some place gets empty", x.run() > 0, true);
        due("more than a thousand", x.woken() > 1000, true);
        for (int k = 0; k < 100; k++) {
            due("the first ones", x.order(k), k);
        }
        due("order(999)", x.order(999) >= 0 && x.order(999) < 100, true);
        due("order(1000)", x.order(1000), -1);
        due("order(MAX)", x.order(Integer.MAX_VALUE), -1);
        due("order(-1)", x.order(-1), -1);
        due("order(MIN)", x.order(Integer.MIN_VALUE), -1);
        int all = x.woken();
        int last = x.order(999);
        x.mark();
        x.run();
        due("none took", x.order(0), -1);
        x.back(0);
        due("woken is back", x.woken(), all);
        due("order is back", x.order(999), last);
    }

    private static void unlike() {
        Counted x = new Counted(5, 6);
        x.rule(0, 0);
        intoAll(x, 0, 0, 0, 0, 0);
        keep(x, 0, 0, 1);
        keep(x, 1, 0, 1);
        keep(x, 2, 0, 1, 2, 3);
        keep(x, 3, 2, 3, 4);
        due("run", x.run(), 0);
        due("a pair keeps its two", x.candidates(0), bits(0, 1));
        due("others lose them", x.candidates(2), bits(2, 3));
        due("what is free stays", x.candidates(3), bits(2, 3, 4));
        due("a place outside", x.candidates(4), 63);
        x.take(3, 4);
        x.run();
        due("two for two", x.candidates(3), bits(2, 3));
        x.set(2, 3);
        x.run();
        due("one left", x.candidates(3), bits(2));
        Counted y = new Counted(16, 15);
        y.rule(0, 0);
        intoAll(y, 0, new long[16]);
        due("16 places, 15 symbols", y.run(), 1);
        for (int place = 0; place < 16; place++) {
            due("all went of place " + place, y.candidates(place), 0);
            due("with a reason", y.reason(place, 14, 0), 0);
        }
        Counted z = new Counted(16, 16);
        z.rule(0, 0);
        intoAll(z, 0, new long[16]);
        for (int place = 0; place < 15; place++) {
            keep(z, place, 15 - place, 14 - place);
        }
        z.set(15, 0);
        due("a chain of moves", z.run(), 0);
        for (int place = 0; place < 15; place++) {
            due("place " + place, z.candidates(place), bits(15 - place));
        }
        Counted w = new Counted(1, 3);
        w.rule(0, 0);
        w.into(0, 0, 0);
        w.run();
        due("one place", w.candidates(0), 7);
        Counted v = new Counted(4, 5);
        v.rule(0, 0);
        intoAll(v, 0, 0, 0, 0, 0);
        keep(v, 0, 0, 1);
        keep(v, 1, 1, 2);
        keep(v, 2, 2, 0);
        due("three in a ring", v.run(), 0);
        due("may turn either way", v.candidates(2), bits(0, 2));
        due("the fourth keeps the others", v.candidates(3), bits(3, 4));
    }

    private static void equal() {
        Counted x = new Counted(3, 6);
        x.rule(1, 0);
        intoAll(x, 0, 0, 0, 0);
        keep(x, 0, 0, 1, 2, 3);
        keep(x, 1, 1, 2, 3, 4);
        keep(x, 2, 0, 2, 3, 5);
        due("run", x.run(), 0);
        due("first", x.candidates(0), bits(2, 3));
        due("second", x.candidates(1), bits(2, 3));
        due("third", x.candidates(2), bits(2, 3));
        x.set(0, 2);
        x.set(1, 3);
        due("nothing in common", x.run(), 1);
        due("all go", x.candidates(2), 0);
    }

    private static void sum() {
        Counted x = new Counted(3, 10);
        x.rule(2, 20);
        intoAll(x, 0, 1, 2, -1);
        due("run", x.run(), 0);
        due("v - 0 .. 9 + 0 .. 18 = 20: v of 2 ..", x.candidates(0), span(2, 9));
        due("2 v of 11 .. 29", x.candidates(1), span(6, 9));
        due("-v of -7 ..", x.candidates(2), span(0, 7));
        Counted y = new Counted(2, 60);
        y.rule(2, -118_000);
        intoAll(y, 0, -1000, -1000);
        due("the least of all", y.run(), 0);
        due("59", y.candidates(0), bits(59));
        due("59", y.candidates(1), bits(59));
        Counted z = new Counted(2, 4);
        z.rule(2, 3);
        intoAll(z, 0, 0, 2);
        due("2 v = 3", z.run(), 2);
        due("factor 0 keeps all", z.candidates(0), 15);
        due("2 v = 3 keeps none", z.candidates(1), 0);
        Counted w = new Counted(2, 4);
        w.rule(2, 3);
        intoAll(w, 0, 2, 2);
        due("2 v + 2 w = 3: bounds alone", w.run(), 0);
        due("0 and 1 stay", w.candidates(0), bits(0, 1));
    }

    private static void atMost() {
        Counted x = new Counted(3, 10);
        x.rule(3, 7);
        intoAll(x, 0, 2, 3, -1);
        due("run", x.run(), 0);
        due("2 v of at most 16", x.candidates(0), span(0, 8));
        due("3 v of at most 16", x.candidates(1), span(0, 5));
        due("-v of at most 7", x.candidates(2), span(0, 9));
        x.take(0, 0);
        x.set(2, 1);
        due("run", x.run(), 0);
        due("2 v of at most 8", x.candidates(0), span(1, 4));
        due("3 v of at most 6", x.candidates(1), span(0, 2));
        Counted y = new Counted(2, 3);
        y.rule(3, -1);
        intoAll(y, 0, 0, 0);
        due("0 is above -1", y.run(), 1);
        due("all go", y.candidates(1), 0);
    }

    private static void count() {
        Counted x = new Counted(4, 5);
        x.rule(4, 2);
        intoAll(x, 0, 3, 3, 3, 4);
        due("run", x.run(), 0);
        due("four can, none must", x.candidates(0), 31);
        x.set(0, 3);
        x.set(3, 4);
        due("two must", x.run(), 0);
        due("those that need not lose it", x.candidates(1), bits(0, 1, 2, 4));
        due("those that need not lose it", x.candidates(2), bits(0, 1, 2, 4));
        due("those that must keep it", x.candidates(3), bits(4));
        Counted y = new Counted(4, 5);
        y.rule(4, 2);
        intoAll(y, 0, 3, 3, -1, 64);
        due("just two can: no symbol is none", y.run(), 0);
        due("they keep it alone", y.candidates(0), bits(3));
        due("they keep it alone", y.candidates(1), bits(3));
        due("others keep all", y.candidates(2), 31);
        due("others keep all", y.candidates(3), 31);
        y.take(0, 3);
        due("empty", y.run(), 1);
        Counted z = new Counted(3, 5);
        z.rule(4, 1);
        intoAll(z, 0, 0, 0, 0);
        z.set(0, 0);
        z.set(1, 0);
        due("two must, one may", z.run(), 1);
        due("all go", z.candidates(2), 0);
        Counted w = new Counted(3, 5);
        w.rule(4, 4);
        intoAll(w, 0, 0, 0, 0);
        due("three can, four should", w.run(), 1);
        due("all go", w.candidates(2), 0);
        Counted u = new Counted(3, 5);
        u.rule(4, 2);
        intoAll(u, 0, 1, 1, 9);
        u.set(0, 1);
        due("one must, two can", u.run(), 0);
        due("the other one has to", u.candidates(1), bits(1));
        Counted v = new Counted(2, 5);
        v.rule(4, 0);
        intoAll(v, 0, 2, 5);
        due("none must, none may", v.run(), 0);
        due("it goes", v.candidates(0), bits(0, 1, 3, 4));
        due("5 is no symbol", v.candidates(1), 31);
    }

    private static void rising() {
        Counted x = new Counted(3, 8);
        x.rule(5, 0);
        intoAll(x, 0, 0, 0, 0);
        keep(x, 0, 2, 5, 7);
        keep(x, 1, 1, 3, 4, 6);
        keep(x, 2, 0, 3, 5);
        due("run", x.run(), 0);
        due("first", x.candidates(0), bits(2));
        due("second", x.candidates(1), bits(3, 4));
        due("third", x.candidates(2), bits(5));
        x.set(1, 4);
        x.take(2, 5);
        due("empty", x.run(), 3);
        Counted y = new Counted(3, 2);
        y.rule(5, 0);
        intoAll(y, 0, 0, 0, 0);
        due("no way", y.run(), 1);
        due("all go, first", y.candidates(0), 0);
        due("all go, second", y.candidates(1), 0);
        due("all go, third", y.candidates(2), 0);
        Counted z = new Counted(2, 4);
        z.rule(5, 0);
        z.into(0, 1, 0);
        z.into(0, 0, 0);
        z.run();
        due("in the order in which they came", z.candidates(0), bits(1, 2, 3));
        due("in the order in which they came", z.candidates(1), bits(0, 1, 2));
        Counted w = new Counted(2, 60);
        w.rule(5, 0);
        w.into(0, 0, 0);
        w.run();
        due("one place", w.candidates(0), span(0, 59));
        w.into(0, 1, 0);
        w.set(1, 59);
        w.run();
        due("up to the last", w.candidates(0), span(0, 58));
    }

    private static void apart() {
        for (int sign = -1; sign <= 1; sign += 2) {
            Counted x = new Counted(3, 8);
            x.rule(6, 3 * sign);
            x.into(0, 0, 0);
            x.set(1, 4);
            x.run();
            due("one place takes nothing", x.candidates(0), 255);
            x.into(0, 1, 0);
            due("run", x.run(), 0);
            due("3 apart of 4", x.candidates(0), bits(1, 7));
            due("4 stays", x.candidates(1), bits(4));
            x.into(0, 2, 0);
            x.take(0, 1);
            due("three places take nothing", x.run(), 0);
            due("three places take nothing", x.candidates(2), 255);
            due("it TOOK nothing", x.woken(), 1);
        }
        far(8, 8);
        far(8, -8);
        far(60, 64);
        far(60, 60);
        far(60, 1_000_000);
        far(60, -1_000_000);
        Counted y = new Counted(2, 60);
        y.rule(6, 59);
        intoAll(y, 0, 0, 0);
        due("59", y.run(), 0);
        due("both ends", y.candidates(0), bits(0, 59));
        Counted z = new Counted(2, 4);
        z.rule(6, 0);
        intoAll(z, 0, 0, 0);
        z.take(0, 1);
        z.run();
        due("0 apart", z.candidates(1), bits(0, 2, 3));
    }

    private static void far(int symbols, long right) {
        Counted x = new Counted(2, symbols);
        x.rule(6, right);
        intoAll(x, 0, 0, 0);
        due("too far: " + right, x.run(), 1);
        due("all go: " + right, x.candidates(1), 0);
    }

    private static void tableRules() {
        Counted x = new Counted(3, 5);
        x.rule(7, 0);
        x.into(0, 1, 0);
        x.table(0, 0, 3);
        x.table(0, 1, 3);
        x.table(0, 1, 4);
        x.table(0, 2, 2);
        x.run();
        due("one place takes nothing", x.candidates(1), 31);
        x.into(0, 0, 0);
        x.take(0, 2);
        due("run", x.run(), 0);
        due("the first place's symbols", x.candidates(1), bits(0, 1));
        due("the second place's symbols", x.candidates(0), bits(3, 4));
        x.set(1, 0);
        x.run();
        due("what goes with 0", x.candidates(0), bits(3));
        x.into(0, 2, 0);
        x.set(0, 3);
        due("three places take nothing", x.run(), 0);
        due("three places take nothing", x.candidates(2), 31);
        Counted y = new Counted(2, 5);
        y.rule(7, 0);
        intoAll(y, 0, 0, 0);
        due("no pairs", y.run(), 1);
        due("all go", y.candidates(1), 0);
    }
}
