/** What a rule TAKES: for each kind, each edge that the document's words name has a test of its own. */
public final class KindEdgesTest extends Sentences {
    public static void main(String[] args) {
        unlike();
        equal();
        sum();
        atMost();
        count();
        rising();
        apart();
        table();
        numberOfPlaces();
        end();
    }

    /** Rule 0, with all its places 0 .. last, took all candidates of all of them. */
    private static void tookAll(Counted x, int symbols, int last) {
        due("run()", x.run(), 1);
        for (int place = 0; place <= last; place++) {
            has(x, place, 0);
            due("reason(" + place + ", " + (symbols - 1) + ", 0)", x.reason(place, symbols - 1, 0), 0);
        }
    }

    /** Rule 0 TOOK nothing, and its places 0 .. last keep all candidates. */
    private static void tookNothing(Counted x, int symbols, int last) {
        runs(x, 0, 0);
        for (int place = 0; place <= last; place++) {
            has(x, place, span(0, symbols - 1));
        }
    }

    // ---- 0 unlike

    private static void unlike() {
        sentence("0: one place: each v has a part", () -> {
            Counted x = new Counted(1, 60);
            ruleOf(x, 0, 0, 0);
            tookNothing(x, 60, 0);
        });
        sentence("0: just as many symbols as places", () -> {
            Counted x = new Counted(16, 16);
            ruleOf(x, 0, 0, new long[16]);
            tookNothing(x, 16, 15);
        });
        sentence("0: one symbol fewer than places: no way, so all go", () -> {
            Counted x = new Counted(16, 15);
            ruleOf(x, 0, 0, new long[16]);
            tookAll(x, 15, 15);
            Counted y = new Counted(2, 1);
            ruleOf(y, 0, 0, 0, 0);
            tookAll(y, 1, 1);
        });
        sentence("0: two places of one candidate: all go, of the rule's other places too", () -> {
            Counted x = new Counted(4, 6);
            ruleOf(x, 0, 0, 0, 0, 0);
            x.set(0, 3);
            x.set(2, 3);
            due("run()", x.run(), 1);
            has(x, 0, 0);
            has(x, 1, 0);
            has(x, 2, 0);
            has(x, 3, 63);
            due("reason(1, 0, 0)", x.reason(1, 0, 0), 0);
            due("reason(0, 3, 0)", x.reason(0, 3, 0), 0);
            due("reason(0, 0, 0)", x.reason(0, 0, 0), -1);
        });
        sentence("0: all its places, not two and two: three places of two candidates", () -> {
            Counted x = new Counted(4, 60);
            ruleOf(x, 0, 0, 0, 0, 0);
            for (int place = 0; place < 3; place++) {
                keep(x, place, 0, 59);
            }
            due("run()", x.run(), 1);
            has(x, 2, 0);
        });
        sentence("0: a full set of places takes its symbols from the others", () -> {
            Counted x = new Counted(4, 60);
            ruleOf(x, 0, 0, 0, 0, 0, 0);
            keep(x, 1, 0, 59);
            keep(x, 3, 0, 59);
            runs(x, 0, 0);
            has(x, 0, span(1, 58));
            has(x, 1, bits(0, 59));
            has(x, 2, span(1, 58));
            has(x, 3, bits(0, 59));
        });
        sentence("0: one way alone is left: 16 places, the last one has one candidate", () -> {
            Counted x = new Counted(16, 16);
            ruleOf(x, 0, 0, new long[16]);
            for (int place = 0; place < 15; place++) {
                keep(x, place, place, place + 1);
            }
            x.set(15, 15);
            runs(x, 0, 0);
            for (int place = 0; place < 16; place++) {
                has(x, place, bits(place));
            }
        });
        sentence("0: a free symbol at the end of a long chain keeps every v", () -> {
            Counted x = new Counted(16, 17);
            ruleOf(x, 0, 0, new long[16]);
            for (int place = 0; place < 16; place++) {
                keep(x, place, place, place + 1);
            }
            runs(x, 0, 0);
            for (int place = 0; place < 16; place++) {
                has(x, place, bits(place, place + 1));
            }
        });
        sentence("0: the last place has one candidate, for which all the others have to move on", () -> {
            Counted x = new Counted(16, 16);
            ruleOf(x, 0, 0, new long[16]);
            for (int place = 0; place < 15; place++) {
                keep(x, place, 15 - place, 14 - place);
            }
            x.set(15, 0);
            runs(x, 0, 0);
            for (int place = 0; place < 16; place++) {
                has(x, place, bits(15 - place));
            }
        });
        sentence("0: a ring of places that may all move on either way, and one outside it", () -> {
            Counted x = new Counted(16, 16);
            ruleOf(x, 0, 0, new long[16]);
            for (int place = 0; place < 15; place++) {
                keep(x, place, place, (place + 1) % 15);
            }
            runs(x, 0, 0);
            for (int place = 0; place < 15; place++) {
                has(x, place, bits(place, (place + 1) % 15));
            }
            has(x, 15, bits(15));
        });
        sentence("0: two rules, each with its own way", () -> {
            Counted x = new Counted(4, 2);
            ruleOf(x, 0, 0, 0, 0);
            x.rule(0, 0);
            x.into(1, 2, 0);
            x.into(1, 3, 0);
            runs(x, 0, 0, 1);
            x.set(0, 0);
            x.set(3, 0);
            runs(x, 0, 0, 1);
            has(x, 1, bits(1));
            has(x, 2, bits(1));
        });
        sentence("0: RIGHT and factors do not matter", () -> {
            Counted x = new Counted(2, 3);
            ruleOf(x, 0, -1_000_000, 1000, -1000);
            x.set(0, 0);
            runs(x, 0, 0);
            has(x, 1, bits(1, 2));
        });
    }

    // ---- 1 equal

    private static void equal() {
        sentence("1: one place: nothing goes", () -> {
            Counted x = new Counted(1, 60);
            ruleOf(x, 1, 0, 0);
            tookNothing(x, 60, 0);
        });
        sentence("1: no candidate of some of its places: of one of 16 is enough", () -> {
            Counted x = new Counted(16, 60);
            ruleOf(x, 1, 0, new long[16]);
            x.take(15, 59);
            x.take(0, 0);
            runs(x, 0, 0);
            for (int place = 0; place < 16; place++) {
                has(x, place, span(1, 58));
            }
        });
        sentence("1: one v alone is in all: it stays", () -> {
            Counted x = new Counted(3, 60);
            ruleOf(x, 1, 0, 0, 0, 0);
            keep(x, 0, 0, 30, 59);
            keep(x, 1, 0, 59);
            keep(x, 2, 30, 59);
            runs(x, 0, 0);
            has(x, 0, bits(59));
            has(x, 1, bits(59));
            has(x, 2, bits(59));
        });
        sentence("1: no v is in all: all go", () -> {
            Counted x = new Counted(3, 3);
            ruleOf(x, 1, 0, 0, 0, 0);
            x.take(0, 0);
            x.take(1, 1);
            x.take(2, 2);
            due("run()", x.run(), 1);
            has(x, 0, 0);
            has(x, 1, 0);
            has(x, 2, 0);
        });
    }

    // ---- 2 sum

    private static void sum() {
        sentence("2: with the least of the others just RIGHT stays, one more goes", () -> {
            Counted x = new Counted(2, 10);
            ruleOf(x, 2, 5, 1, 1);
            runs(x, 0, 0);
            has(x, 0, span(0, 5));
            has(x, 1, span(0, 5));
        });
        sentence("2: with the most of the others just RIGHT stays, one less goes", () -> {
            Counted x = new Counted(2, 10);
            ruleOf(x, 2, 13, 1, 1);
            runs(x, 0, 0);
            has(x, 0, span(4, 9));
            has(x, 1, span(4, 9));
        });
        sentence("2: the others, when there are none", () -> {
            Counted x = new Counted(1, 60);
            ruleOf(x, 2, 177, 3);
            runs(x, 0, 0);
            has(x, 0, bits(59));
            Counted y = new Counted(1, 60);
            ruleOf(y, 2, 176, 3);
            tookAll(y, 60, 0);
        });
        sentence("2: a factor below 0: the greatest candidate adds the least", () -> {
            Counted x = new Counted(2, 10);
            ruleOf(x, 2, 0, 1, -1);
            keep(x, 1, 2, 7);
            runs(x, 0, 0);
            has(x, 0, span(2, 7));
            has(x, 1, bits(2, 7));
            Counted y = new Counted(2, 10);
            ruleOf(y, 2, 9, 1, -1);
            runs(y, 0, 0);
            has(y, 0, bits(9));
            has(y, 1, bits(0));
            Counted z = new Counted(2, 10);
            ruleOf(z, 2, -9, 1, -1);
            runs(z, 0, 0);
            has(z, 0, bits(0));
            has(z, 1, bits(9));
        });
        sentence("2: a factor 0 adds nothing: all of it stay, or all go", () -> {
            Counted x = new Counted(2, 4);
            ruleOf(x, 2, 0, 0, 0);
            tookNothing(x, 4, 1);
            Counted y = new Counted(2, 4);
            ruleOf(y, 2, 1, 0, 0);
            tookAll(y, 4, 1);
            Counted z = new Counted(2, 4);
            ruleOf(z, 2, -1, 0, 0);
            tookAll(z, 4, 1);
        });
        sentence("2: the least and the most alone count, not what lies between", () -> {
            Counted x = new Counted(2, 4);
            ruleOf(x, 2, 3, 2, 2);
            runs(x, 0, 0);
            has(x, 0, bits(0, 1));
            has(x, 1, bits(0, 1));
        });
        sentence("2: the most that 16 places can come to, and one more", () -> {
            Counted x = largest(2, 944_000, 1000);
            runs(x, 0, 0);
            for (int place = 0; place < 16; place++) {
                has(x, place, bits(59));
            }
            tookAll(largest(2, 944_001, 1000), 60, 15);
            tookAll(largest(2, 1_000_000, 1000), 60, 15);
        });
        sentence("2: the least that 16 places can come to, and one less", () -> {
            Counted x = largest(2, -944_000, -1000);
            runs(x, 0, 0);
            for (int place = 0; place < 16; place++) {
                has(x, place, bits(59));
            }
            tookAll(largest(2, -944_001, -1000), 60, 15);
            tookAll(largest(2, -1_000_000, -1000), 60, 15);
            Counted y = largest(2, 0, 1000);
            runs(y, 0, 0);
            has(y, 0, bits(0));
            has(y, 15, bits(0));
        });
    }

    /** 16 places of 60 symbols, all with the same factor. */
    private static Counted largest(int kind, long right, long factor) {
        Counted x = new Counted(16, 60);
        long[] factors = new long[16];
        java.util.Arrays.fill(factors, factor);
        ruleOf(x, kind, right, factors);
        return x;
    }

    // ---- 3 at most

    private static void atMost() {
        sentence("3: just RIGHT stays, one more goes", () -> {
            Counted x = new Counted(2, 10);
            ruleOf(x, 3, 5, 1, 1);
            runs(x, 0, 0);
            has(x, 0, span(0, 5));
            has(x, 1, span(0, 5));
            x.set(1, 5);
            runs(x, 0, 0);
            has(x, 0, bits(0));
        });
        sentence("3: the first of the two alone: too little never goes", () -> {
            Counted x = new Counted(2, 10);
            ruleOf(x, 3, 18, 1, 1);
            tookNothing(x, 10, 1);
            x.set(0, 0);
            runs(x, 0, 0);
            has(x, 1, span(0, 9));
        });
        sentence("3: a factor below 0: the greatest candidate adds the least", () -> {
            Counted x = new Counted(1, 10);
            ruleOf(x, 3, -9, -1);
            runs(x, 0, 0);
            has(x, 0, bits(9));
            Counted y = new Counted(2, 10);
            ruleOf(y, 3, -1, 1, -1);
            runs(y, 0, 0);
            has(y, 0, span(0, 8));
            has(y, 1, span(1, 9));
        });
        sentence("3: RIGHT below all: all go", () -> {
            Counted x = new Counted(2, 3);
            ruleOf(x, 3, -1, 1, 0);
            tookAll(x, 3, 1);
            Counted y = new Counted(2, 10);
            ruleOf(y, 3, -10, -1, 0);
            tookAll(y, 10, 1);
        });
        sentence("3: the most that 16 places can come to, and one less", () -> {
            tookNothing(largest(3, 944_000, 1000), 60, 15);
            tookNothing(largest(3, 943_999, 1000), 60, 15);
            Counted x = largest(3, 58_999, 1000);
            runs(x, 0, 0);
            has(x, 0, span(0, 58));
            has(x, 15, span(0, 58));
        });
        sentence("3: the least that 16 places can come to, and one less", () -> {
            Counted x = largest(3, -944_000, -1000);
            runs(x, 0, 0);
            has(x, 0, bits(59));
            has(x, 15, bits(59));
            tookAll(largest(3, -944_001, -1000), 60, 15);
            tookAll(largest(3, -1_000_000, -1000), 60, 15);
        });
    }

    // ---- 4 count

    private static void count() {
        sentence("4: a factor that is no symbol: the place can't", () -> {
            long[] none = {-1, -2, -60, -63, -64, -1000, 60, 61, 63, 64, 65, 123, 128, 256, 1000};
            for (long factor : none) {
                factorIsNone(60, factor);
            }
            factorIsNone(4, 4);
            factorIsNone(4, 5);
            factorIsNone(4, 59);
            factorIsNone(1, 1);
        });
        sentence("4: a factor of 0 and of the last symbol: the place CAN", () -> {
            Counted x = new Counted(2, 60);
            ruleOf(x, 4, 2, 0, 59);
            runs(x, 0, 0);
            has(x, 0, bits(0));
            has(x, 1, bits(59));
        });
        sentence("4: CAN when its factor is one of its candidates: not when it is gone", () -> {
            Counted x = new Counted(3, 4);
            ruleOf(x, 4, 2, 1, 1, 1);
            x.take(1, 1);
            runs(x, 0, 0);
            has(x, 0, bits(1));
            has(x, 1, bits(0, 2, 3));
            has(x, 2, bits(1));
        });
        sentence("4: MUST when that is the only one: not with two, not with another one", () -> {
            Counted x = new Counted(3, 4);
            ruleOf(x, 4, 1, 1, 1, 1);
            keep(x, 0, 1, 2);
            x.set(1, 3);
            runs(x, 0, 0);
            has(x, 0, bits(1, 2));
            has(x, 1, bits(3));
            has(x, 2, 15);
            x.take(0, 2);
            runs(x, 0, 0);
            has(x, 0, bits(1));
            has(x, 2, bits(0, 2, 3));
        });
        sentence("4: fewer than RIGHT CAN, by one: all candidates of all its places", () -> {
            Counted x = new Counted(4, 4);
            ruleOf(x, 4, 3, 2, 2, 2);
            x.take(1, 2);
            due("run()", x.run(), 1);
            has(x, 0, 0);
            has(x, 1, 0);
            has(x, 2, 0);
            has(x, 3, 15);
            due("reason(1, 3, 0)", x.reason(1, 3, 0), 0);
            due("reason(2, 2, 0)", x.reason(2, 2, 0), 0);
        });
        sentence("4: more than RIGHT MUST, by one: all candidates of all its places", () -> {
            Counted x = new Counted(5, 4);
            ruleOf(x, 4, 1, 2, 2, 2, 9);
            x.set(0, 2);
            x.set(2, 2);
            due("run()", x.run(), 1);
            for (int place = 0; place < 4; place++) {
                has(x, place, 0);
            }
            has(x, 4, 15);
        });
        sentence("4: just RIGHT CAN: of those that CAN all but their factors, of the others none", () -> {
            Counted x = new Counted(4, 4);
            ruleOf(x, 4, 2, 2, -1, 3, 1);
            x.take(3, 1);
            runs(x, 0, 0);
            has(x, 0, bits(2));
            has(x, 1, 15);
            has(x, 2, bits(3));
            has(x, 3, bits(0, 2, 3));
        });
        sentence("4: just RIGHT CAN, one of which MUST", () -> {
            Counted x = new Counted(2, 4);
            ruleOf(x, 4, 2, 2, 2);
            x.set(0, 2);
            runs(x, 0, 0);
            has(x, 0, bits(2));
            has(x, 1, bits(2));
        });
        sentence("4: just RIGHT MUST: of those that CAN but need not their factors, of the others none", () -> {
            Counted x = new Counted(4, 4);
            ruleOf(x, 4, 1, 2, 2, 3, -1);
            x.set(0, 2);
            runs(x, 0, 0);
            has(x, 0, bits(2));
            has(x, 1, bits(0, 1, 3));
            has(x, 2, bits(0, 1, 2));
            has(x, 3, 15);
        });
        sentence("4: just RIGHT CAN and just RIGHT MUST: nothing goes", () -> {
            Counted x = new Counted(3, 4);
            ruleOf(x, 4, 1, 2, 2, 2);
            x.set(0, 2);
            x.take(1, 2);
            x.take(2, 2);
            runs(x, 0, 0);
            has(x, 0, bits(2));
            has(x, 1, bits(0, 1, 3));
            has(x, 2, bits(0, 1, 3));
        });
        sentence("4: more CAN and fewer MUST: nothing goes", () -> {
            Counted x = new Counted(4, 4);
            ruleOf(x, 4, 2, 2, 2, 2, 2);
            x.set(0, 2);
            x.take(3, 2);
            runs(x, 0, 0);
            has(x, 1, 15);
            has(x, 2, 15);
        });
        sentence("4: RIGHT 0", () -> {
            Counted x = new Counted(3, 4);
            ruleOf(x, 4, 0, 2, 3, 4);
            runs(x, 0, 0);
            has(x, 0, bits(0, 1, 3));
            has(x, 1, bits(0, 1, 2));
            has(x, 2, 15);
            Counted y = new Counted(2, 4);
            ruleOf(y, 4, 0, -1, 4);
            tookNothing(y, 4, 1);
            Counted z = new Counted(2, 4);
            ruleOf(z, 4, 0, 2, 2);
            z.set(0, 2);
            due("run(), one MUST", z.run(), 1);
            has(z, 1, 0);
        });
        sentence("4: RIGHT below 0: more than RIGHT MUST, though none does", () -> {
            long[] rights = {-1, -2, -1_000_000};
            for (long right : rights) {
                Counted x = new Counted(2, 4);
                ruleOf(x, 4, right, 2, -1);
                tookAll(x, 4, 1);
            }
        });
        sentence("4: RIGHT as many as there are places, and one more", () -> {
            Counted x = largest(4, 16, 59);
            runs(x, 0, 0);
            for (int place = 0; place < 16; place++) {
                has(x, place, bits(59));
            }
            tookAll(largest(4, 17, 59), 60, 15);
            tookAll(largest(4, 1_000_000, 59), 60, 15);
        });
    }

    private static void factorIsNone(int symbols, long factor) {
        Counted x = new Counted(2, symbols);
        ruleOf(x, 4, 1, symbols - 1, factor);
        runs(x, 0, 0);
        has(x, 0, bits(symbols - 1));
        has(x, 1, span(0, symbols - 1));
        Counted y = new Counted(2, symbols);
        ruleOf(y, 4, 0, factor, factor);
        tookNothing(y, symbols, 1);
        Counted z = new Counted(1, symbols);
        ruleOf(z, 4, 1, factor);
        tookAll(z, symbols, 0);
    }

    // ---- 5 rising

    private static void rising() {
        sentence("5: one place: each v has a part", () -> {
            Counted x = new Counted(1, 60);
            ruleOf(x, 5, 0, 0);
            tookNothing(x, 60, 0);
        });
        sentence("5: the same candidate does not rise, the next one does", () -> {
            Counted x = new Counted(2, 6);
            ruleOf(x, 5, 0, 0, 0);
            x.set(0, 3);
            x.mark();
            x.set(1, 3);
            due("run()", x.run(), 1);
            has(x, 0, 0);
            has(x, 1, 0);
            x.back(0);
            x.set(1, 4);
            runs(x, 0, 0);
            has(x, 0, bits(3));
            has(x, 1, bits(4));
        });
        sentence("5: two places: the last symbol of the first and the first of the last go", () -> {
            Counted x = new Counted(2, 60);
            ruleOf(x, 5, 0, 0, 0);
            runs(x, 0, 0);
            has(x, 0, span(0, 58));
            has(x, 1, span(1, 59));
        });
        sentence("5: just as many symbols as places: one way", () -> {
            Counted x = new Counted(16, 16);
            ruleOf(x, 5, 0, new long[16]);
            runs(x, 0, 0);
            for (int place = 0; place < 16; place++) {
                has(x, place, bits(place));
            }
        });
        sentence("5: one symbol more than places", () -> {
            Counted x = new Counted(16, 17);
            ruleOf(x, 5, 0, new long[16]);
            runs(x, 0, 0);
            for (int place = 0; place < 16; place++) {
                has(x, place, bits(place, place + 1));
            }
        });
        sentence("5: one symbol fewer than places: no way, so all go", () -> {
            Counted x = new Counted(16, 15);
            ruleOf(x, 5, 0, new long[16]);
            tookAll(x, 15, 15);
            Counted y = new Counted(2, 1);
            ruleOf(y, 5, 0, 0, 0);
            tookAll(y, 1, 1);
        });
        sentence("5: no way because of two in the middle: all go, before and after them too", () -> {
            Counted x = new Counted(6, 60);
            ruleOf(x, 5, 0, 0, 0, 0, 0, 0);
            x.set(2, 30);
            x.set(3, 29);
            due("run()", x.run(), 1);
            for (int place = 0; place < 5; place++) {
                has(x, place, 0);
            }
            has(x, 5, span(0, 59));
        });
        sentence("5: no way because the last one is at the first symbol, or the first at the last", () -> {
            Counted x = new Counted(3, 60);
            ruleOf(x, 5, 0, 0, 0, 0);
            x.mark();
            x.set(2, 0);
            due("run()", x.run(), 1);
            has(x, 0, 0);
            has(x, 1, 0);
            has(x, 2, 0);
            x.back(0);
            x.set(0, 59);
            due("run()", x.run(), 1);
            has(x, 0, 0);
            has(x, 1, 0);
            has(x, 2, 0);
        });
        sentence("5: the first one is at the first symbol, the last at the last", () -> {
            Counted x = new Counted(3, 60);
            ruleOf(x, 5, 0, 0, 0, 0);
            x.set(0, 0);
            x.set(2, 59);
            runs(x, 0, 0);
            has(x, 0, bits(0));
            has(x, 1, span(1, 58));
            has(x, 2, bits(59));
        });
        sentence("5: no way because of the first and the last one", () -> {
            Counted x = new Counted(4, 10);
            ruleOf(x, 5, 0, 0, 0, 0, 0);
            x.set(0, 5);
            x.mark();
            x.set(3, 7);
            due("run()", x.run(), 1);
            has(x, 1, 0);
            has(x, 3, 0);
            x.back(0);
            x.set(3, 8);
            runs(x, 0, 0);
            has(x, 1, bits(6));
            has(x, 2, bits(7));
        });
        sentence("5: from each one to the next, in the order in which they came", () -> {
            Counted x = new Counted(3, 3);
            x.rule(5, 0);
            x.into(0, 2, 0);
            x.into(0, 0, 0);
            x.into(0, 1, 0);
            runs(x, 0, 0);
            has(x, 2, bits(0));
            has(x, 0, bits(1));
            has(x, 1, bits(2));
        });
        sentence("5: gaps among the candidates", () -> {
            Counted x = new Counted(3, 8);
            ruleOf(x, 5, 0, 0, 0, 0);
            keep(x, 0, 2, 5, 7);
            keep(x, 1, 1, 3, 4, 6);
            keep(x, 2, 0, 3, 5);
            runs(x, 0, 0);
            has(x, 0, bits(2));
            has(x, 1, bits(3, 4));
            has(x, 2, bits(5));
        });
    }

    // ---- 6 apart

    private static void apart() {
        sentence("6: neither v + RIGHT nor v - RIGHT: one of them is enough", () -> {
            Counted x = new Counted(2, 10);
            ruleOf(x, 6, 3, 0, 0);
            x.set(1, 5);
            runs(x, 0, 0);
            has(x, 0, bits(2, 8));
            has(x, 1, bits(5));
        });
        sentence("6: v + RIGHT above the last symbol, v - RIGHT below the first", () -> {
            Counted x = new Counted(2, 10);
            ruleOf(x, 6, 3, 0, 0);
            x.set(1, 8);
            runs(x, 0, 0);
            has(x, 0, bits(5));
            Counted y = new Counted(2, 10);
            ruleOf(y, 6, 3, 0, 0);
            y.set(0, 1);
            runs(y, 0, 0);
            has(y, 1, bits(4));
        });
        sentence("6: RIGHT 0: both are v itself", () -> {
            Counted x = new Counted(2, 60);
            ruleOf(x, 6, 0, 0, 0);
            x.take(0, 59);
            x.take(1, 0);
            runs(x, 0, 0);
            has(x, 0, span(1, 58));
            has(x, 1, span(1, 58));
        });
        sentence("6: RIGHT below 0 is as above", () -> {
            Counted x = new Counted(2, 10);
            ruleOf(x, 6, -3, 0, 0);
            x.set(1, 5);
            runs(x, 0, 0);
            has(x, 0, bits(2, 8));
            Counted y = new Counted(2, 60);
            ruleOf(y, 6, -59, 0, 0);
            runs(y, 0, 0);
            has(y, 0, bits(0, 59));
            has(y, 1, bits(0, 59));
        });
        sentence("6: RIGHT as far as symbols reach", () -> {
            Counted x = new Counted(2, 60);
            ruleOf(x, 6, 59, 0, 0);
            runs(x, 0, 0);
            has(x, 0, bits(0, 59));
            has(x, 1, bits(0, 59));
            Counted y = new Counted(2, 5);
            ruleOf(y, 6, 4, 0, 0);
            runs(y, 0, 0);
            has(y, 0, bits(0, 4));
            has(y, 1, bits(0, 4));
        });
        sentence("6: RIGHT farther than symbols reach: all go, and no shift wraps around", () -> {
            long[] rights = {60, 61, 63, 64, 65, 127, 128, 192, 1 << 16, 1_000_000};
            for (long right : rights) {
                tooFar(60, right);
                tooFar(60, -right);
                tooFar(1, right);
            }
            tooFar(5, 5);
            tooFar(5, -5);
            tooFar(1, 1);
        });
        sentence("6: one symbol, RIGHT 0: nothing goes", () -> {
            Counted x = new Counted(2, 1);
            ruleOf(x, 6, 0, 0, 0);
            tookNothing(x, 1, 1);
        });
    }

    private static void tooFar(int symbols, long right) {
        Counted x = new Counted(2, symbols);
        ruleOf(x, 6, right, 0, 0);
        tookAll(x, symbols, 1);
    }

    // ---- 7 table

    private static void table() {
        sentence("7: no PAIR at all: all go", () -> {
            Counted x = new Counted(2, 60);
            ruleOf(x, 7, 0, 0, 0);
            tookAll(x, 60, 1);
        });
        sentence("7: pairs are of the first place's symbol and the second one's", () -> {
            Counted x = new Counted(2, 60);
            x.rule(7, 0);
            x.into(0, 1, 0);
            x.into(0, 0, 0);
            x.table(0, 0, 59);
            x.table(0, 1, 59);
            runs(x, 0, 0);
            has(x, 1, bits(0, 1));
            has(x, 0, bits(59));
        });
        sentence("7: in no PAIR with a candidate of the other one: with one that went does not count", () -> {
            Counted x = new Counted(2, 6);
            ruleOf(x, 7, 0, 0, 0);
            x.table(0, 0, 5);
            x.table(0, 0, 4);
            x.table(0, 1, 5);
            x.table(0, 2, 3);
            x.take(1, 5);
            x.take(0, 2);
            runs(x, 0, 0);
            has(x, 0, bits(0));
            has(x, 1, bits(4));
        });
        sentence("7: pairs with none but what went: all go", () -> {
            Counted x = new Counted(2, 6);
            ruleOf(x, 7, 0, 0, 0);
            x.table(0, 5, 5);
            x.take(1, 5);
            due("run()", x.run(), 1);
            has(x, 0, 0);
            has(x, 1, 0);
        });
        sentence("7: one symbol and its pair: nothing goes", () -> {
            Counted x = new Counted(2, 1);
            ruleOf(x, 7, 0, 0, 0);
            x.table(0, 0, 0);
            tookNothing(x, 1, 1);
        });
        sentence("7: a pair that comes later does not bring back what went", () -> {
            Counted x = new Counted(2, 3);
            ruleOf(x, 7, 0, 0, 0);
            x.table(0, 0, 0);
            x.run();
            due("table(0, 1, 1)", x.table(0, 1, 1), true);
            runs(x, 0, 0);
            has(x, 0, 1);
            has(x, 1, 1);
        });
    }

    // ---- other numbers of places

    private static void numberOfPlaces() {
        sentence("Rules 6, 7 with one place take nothing", () -> {
            for (int kind = 6; kind < 8; kind++) {
                Counted x = new Counted(2, 3);
                ruleOf(x, kind, 50, 0);
                tookNothing(x, 3, 1);
            }
        });
        sentence("Rules 6, 7 with three places, or 16, take nothing", () -> {
            for (int kind = 6; kind < 8; kind++) {
                Counted x = new Counted(3, 3);
                ruleOf(x, kind, 50, 0, 0, 0);
                tookNothing(x, 3, 2);
                Counted y = new Counted(16, 3);
                ruleOf(y, kind, 50, new long[16]);
                tookNothing(y, 3, 15);
            }
        });
        sentence("Rules 6, 7 of two places take no more when a third one has come", () -> {
            for (int kind = 6; kind < 8; kind++) {
                Counted x = new Counted(3, 8);
                ruleOf(x, kind, 3, 0, 0);
                if (kind == 7) {
                    x.table(0, 1, 4);
                    x.table(0, 7, 4);
                }
                x.set(1, 4);
                runs(x, 0, 0);
                has(x, 0, bits(1, 7));
                x.into(0, 2, 0);
                x.take(1, 4);
                due("run()", x.run(), 2);
                has(x, 0, bits(1, 7));
                Counted y = new Counted(3, 8);
                ruleOf(y, kind, 3, 0, 0, 0);
                y.set(1, 4);
                runs(y, 0, 0);
                has(y, 0, 255);
                has(y, 2, 255);
            }
        });
        sentence("so do all rules without places", () -> {
            Counted x = new Counted(2, 2);
            for (int kind = 0; kind < 8; kind++) {
                x.rule(kind, -1);
            }
            x.table(7, 0, 0);
            x.take(0, 0);
            runs(x, 0, 7);
            has(x, 0, 2);
            has(x, 1, 3);
        });
    }
}
