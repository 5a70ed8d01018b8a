/** A RuleKernels that is asked at most 512 times: what later calls answer is free, so no test may rest on it. */
final class Counted {
    static final int MOST_CALLS = 512;

    private final RuleKernels x;
    private int calls = 0;

    Counted(int places, int symbols) {
        x = new RuleKernels(places, symbols);
    }

    int callsLeft() {
        return MOST_CALLS - calls;
    }

    private RuleKernels next() {
        calls++;
        if (calls > MOST_CALLS) {
            System.out.println("the test asks one object more than " + MOST_CALLS + " times");
            System.exit(1);
        }
        return x;
    }

    int rule(int kind, long right) {
        return next().rule(kind, right);
    }

    boolean into(int rule, int place, long factor) {
        return next().into(rule, place, factor);
    }

    boolean table(int rule, int a, int b) {
        return next().table(rule, a, b);
    }

    boolean take(int place, int symbol) {
        return next().take(place, symbol);
    }

    boolean set(int place, int symbol) {
        return next().set(place, symbol);
    }

    int run() {
        return next().run();
    }

    long candidates(int place) {
        return next().candidates(place);
    }

    int reason(int place, int symbol, int k) {
        return next().reason(place, symbol, k);
    }

    int mark() {
        return next().mark();
    }

    boolean back(int mark) {
        return next().back(mark);
    }

    int woken() {
        return next().woken();
    }

    int order(int k) {
        return next().order(k);
    }
}
