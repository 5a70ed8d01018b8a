import java.util.ArrayList;
import java.util.LinkedHashSet;
import java.util.List;
import java.util.Random;
import java.util.TreeSet;

/** Random runs of calls, each answer held against a slow model that follows the document's words. */
public final class ModelTest {
    private static final int ASKED_AT_ONCE = 12;
    private static final int ASKED_AT_LAST = 40;
    private static int wrong = 0;

    public static void main(String[] args) {
        for (int seed = 0; seed < 20_000 && wrong == 0; seed++) {
            new Play(seed, 1 + seed % 7, 1 + seed % 6).play();
        }
        for (int seed = 20_000; seed < 21_000 && wrong == 0; seed++) {
            new Play(seed, 20, 18).play();
        }
        for (int seed = 21_000; seed < 21_300 && wrong == 0; seed++) {
            new Play(seed, 128, 60).play();
        }
        int[] strides = {1, 7, 37, 53, 59, 113};
        for (int i = 0; i < strides.length && wrong == 0; i++) {
            new Play(i, 120, 60).ring(strides[i]);
        }
        System.out.println(wrong == 0 ? "as the model answers" : "not as the model answers");
        if (wrong != 0) {
            System.exit(1);
        }
    }

    /** One object and one model, given the same calls. */
    private static final class Play {
        final Random random;
        final int seed;
        final int places;
        final int symbols;
        final Counted x;
        final Model model;
        final List<String> calls = new ArrayList<>();
        final int shyness;

        Play(int seed, int places, int symbols) {
            this.seed = seed;
            this.places = places;
            this.symbols = symbols;
            random = new Random(seed);
            x = new Counted(places, symbols);
            model = new Model(places, symbols);
            shyness = 1 + random.nextInt(8);
        }

        void play() {
            int most = x.callsLeft();
            while (x.callsLeft() > ASKED_AT_LAST && wrong == 0) {
                boolean early = x.callsLeft() > most / 2 && model.marks.isEmpty();
                if (early && random.nextInt(10) < 8) {
                    build();
                } else {
                    use();
                }
            }
            look(x.callsLeft());
        }

        /** All 120 rules, in a ring that can't rise all the way round: the longest runs there are. */
        void ring(int stride) {
            for (int number = 0; number < 120; number++) {
                int kind = number % 3 == 0 ? 3 : 5;
                int place = number * stride % 120;
                check("rule", x.rule(kind, -1), model.rule(kind, -1));
                check("into", x.into(number, place, 1) ? 1 : 0, model.into(number, place, 1));
                int next = (place + 1) % 120;
                check("into", x.into(number, next, -1) ? 1 : 0, model.into(number, next, -1));
            }
            check("mark()", x.mark(), model.mark());
            check("run()", x.run(), model.run());
            look(50);
            check("mark()", x.mark(), model.mark());
            check("run()", x.run(), model.run());
            check("back(1)", x.back(1) ? 1 : 0, model.back(1));
            look(20);
            check("back(0)", x.back(0) ? 1 : 0, model.back(0));
            check("take(5, 0)", x.take(5, 0) ? 1 : 0, model.take(5, 0));
            check("run()", x.run(), model.run());
            look(x.callsLeft());
        }

        int place() {
            return random.nextInt(30) == 0 ? random.nextInt(places + 4) - 2 : random.nextInt(places);
        }

        int symbol() {
            return random.nextInt(30) == 0 ? random.nextInt(symbols + 70) - 2 : random.nextInt(symbols);
        }

        int ruleNumber() {
            int count = model.rules.size();
            if (count == 0 || random.nextInt(30) == 0) {
                return random.nextInt(count + 3) - 1;
            }
            return random.nextInt(3) == 0 ? random.nextInt(count) : count - 1;
        }

        long factor(int number) {
            if (random.nextInt(40) == 0) {
                return random.nextInt(2400) - 1200;
            }
            boolean counts = number >= 0 && number < model.rules.size() && model.rules.get(number).kind == 4;
            return counts ? random.nextInt(Math.min(symbols, 2)) : random.nextInt(9) - 4;
        }

        void build() {
            int choice = random.nextInt(12);
            if (choice < 2) {
                int kind = random.nextInt(30) == 0 ? random.nextInt(12) - 2 : random.nextInt(8);
                long right = random.nextInt(kind == 2 || kind == 3 ? symbols * 3 + 2 : 5) - 1;
                if (random.nextInt(30) == 0) {
                    right = random.nextInt(2_400_000) - 1_200_000;
                }
                check("rule(" + kind + ", " + right + ")", x.rule(kind, right), model.rule(kind, right));
            } else if (choice < 7 || !tablePossible()) {
                int number = ruleNumber();
                int place = place();
                long factor = factor(number);
                check("into(" + number + ", " + place + ", " + factor + ")",
                        x.into(number, place, factor) ? 1 : 0, model.into(number, place, factor));
            } else {
                int number = tableRule();
                int a = symbol();
                int b = symbol();
                check("table(" + number + ", " + a + ", " + b + ")",
                        x.table(number, a, b) ? 1 : 0, model.table(number, a, b));
            }
        }

        boolean tablePossible() {
            return random.nextInt(6) == 0 || tableRule() >= 0;
        }

        int tableRule() {
            for (int number = model.rules.size() - 1; number >= 0; number--) {
                if (model.rules.get(number).kind == 7) {
                    return number;
                }
            }
            return ruleNumber();
        }

        void use() {
            int choice = random.nextInt(24 + shyness);
            int place = place();
            int symbol = symbol();
            if (choice < 4) {
                check("run()", x.run(), model.run());
                look(ASKED_AT_ONCE);
            } else if (choice < 6) {
                check("take(" + place + ", " + symbol + ")", x.take(place, symbol) ? 1 : 0, model.take(place, symbol));
            } else if (choice < 7) {
                check("set(" + place + ", " + symbol + ")", x.set(place, symbol) ? 1 : 0, model.set(place, symbol));
            } else if (choice < 10) {
                check("mark()", x.mark(), model.mark());
            } else if (choice < 12) {
                int mark = random.nextInt(3) == 0 ? random.nextInt(23) - 1 : model.marks.size() - 1;
                check("back(" + mark + ")", x.back(mark) ? 1 : 0, model.back(mark));
                look(ASKED_AT_ONCE);
            } else if (choice < 16) {
                ask();
            } else {
                build();
            }
        }

        void look(int questions) {
            for (int i = 0; i < questions && x.callsLeft() > 0; i++) {
                ask();
            }
        }

        void ask() {
            int choice = random.nextInt(10);
            int place = place();
            if (choice < 4) {
                int k = random.nextInt(Math.min(model.woken(), 1100) + 3) - 1;
                check("order(" + k + ")", x.order(k), model.order(k));
            } else if (choice < 6) {
                check("candidates(" + place + ")", x.candidates(place), model.candidates(place));
            } else if (choice < 7) {
                check("woken()", x.woken(), model.woken());
            } else {
                int symbol = symbol();
                int k = random.nextInt(3) == 0 ? random.nextInt(20) - 1 : 0;
                check("reason(" + place + ", " + symbol + ", " + k + ")",
                        x.reason(place, symbol, k), model.reason(place, symbol, k));
            }
        }

        void check(String call, long got, long want) {
            if (calls.size() < 100_000) {
                calls.add(call + " -> " + want);
            }
            if (got != want && wrong == 0) {
                wrong++;
                System.out.println("seed " + seed + ", " + places + " places, " + symbols + " symbols: "
                        + call + " answered " + got + ", due is " + want);
                for (String each : calls) {
                    if (!each.startsWith("reason") && !each.startsWith("order") && !each.startsWith("candidates")) {
                        System.out.println("  " + each);
                    }
                }
            }
        }
    }

    private static final class ModelRule {
        int kind;
        long right;
        final List<Integer> places = new ArrayList<>();
        final List<Long> factors = new ArrayList<>();
        final TreeSet<Integer> pairs = new TreeSet<>();
    }

    /** What changes by calls, whole, so that a mark is a plain copy of it. */
    private static final class State {
        final boolean[][] open;
        final int[][] reasons;
        final LinkedHashSet<Integer> row;
        final List<Integer> told;

        State(int places, int symbols) {
            open = new boolean[places][symbols];
            reasons = new int[places][symbols];
            for (int place = 0; place < places; place++) {
                java.util.Arrays.fill(open[place], true);
                java.util.Arrays.fill(reasons[place], -1);
            }
            row = new LinkedHashSet<>();
            told = new ArrayList<>();
        }

        State(State other) {
            open = new boolean[other.open.length][];
            reasons = new int[other.open.length][];
            for (int place = 0; place < open.length; place++) {
                open[place] = other.open[place].clone();
                reasons[place] = other.reasons[place].clone();
            }
            row = new LinkedHashSet<>(other.row);
            told = new ArrayList<>(other.told);
        }
    }

    private static final class Model {
        final int places;
        final int symbols;
        final List<ModelRule> rules = new ArrayList<>();
        final List<State> marks = new ArrayList<>();
        State now;

        Model(int places, int symbols) {
            this.places = places;
            this.symbols = symbols;
            now = new State(places, symbols);
        }

        boolean isPlace(int place) {
            return place >= 0 && place < places;
        }

        boolean isSymbol(long symbol) {
            return symbol >= 0 && symbol < symbols;
        }

        boolean isRule(int number) {
            return number >= 0 && number < rules.size();
        }

        int rule(int kind, long right) {
            if (kind < 0 || kind > 7 || Math.abs(right) > 1_000_000 || rules.size() == 120 || !marks.isEmpty()) {
                return -1;
            }
            ModelRule made = new ModelRule();
            made.kind = kind;
            made.right = right;
            rules.add(made);
            return rules.size() - 1;
        }

        int into(int number, int place, long factor) {
            if (!isRule(number) || !isPlace(place) || Math.abs(factor) > 1000 || !marks.isEmpty()) {
                return 0;
            }
            ModelRule rule = rules.get(number);
            if (rule.places.contains(place) || rule.places.size() == 16) {
                return 0;
            }
            rule.places.add(place);
            rule.factors.add(factor);
            now.row.add(number);
            return 1;
        }

        int table(int number, int a, int b) {
            if (!isRule(number) || rules.get(number).kind != 7 || !isSymbol(a) || !isSymbol(b) || !marks.isEmpty()) {
                return 0;
            }
            ModelRule rule = rules.get(number);
            if (rule.pairs.contains(a * 100 + b) || rule.pairs.size() == 400) {
                return 0;
            }
            rule.pairs.add(a * 100 + b);
            now.row.add(number);
            return 1;
        }

        boolean open(int place, long symbol) {
            return isPlace(place) && isSymbol(symbol) && now.open[place][(int) symbol];
        }

        void wake(int place, int taker) {
            for (int number = 0; number < rules.size(); number++) {
                if (number != taker && rules.get(number).places.contains(place)) {
                    now.row.add(number);
                }
            }
        }

        void goes(int place, int symbol, int why) {
            now.open[place][symbol] = false;
            now.reasons[place][symbol] = why;
        }

        int take(int place, int symbol) {
            if (!open(place, symbol)) {
                return 0;
            }
            goes(place, symbol, -1);
            wake(place, -1);
            return 1;
        }

        int set(int place, int symbol) {
            if (!open(place, symbol)) {
                return 0;
            }
            for (int other = 0; other < symbols; other++) {
                if (other != symbol) {
                    take(place, other);
                }
            }
            return 1;
        }

        int leastEmpty() {
            for (int place = 0; place < places; place++) {
                if (candidates(place) == 0) {
                    return place;
                }
            }
            return -1;
        }

        int run() {
            now.told.clear();
            while (leastEmpty() < 0 && !now.row.isEmpty()) {
                int number = now.row.iterator().next();
                now.row.remove(number);
                now.told.add(number);
                takeBy(number);
            }
            return leastEmpty() < 0 ? 0 : 1 + leastEmpty();
        }

        void takeBy(int number) {
            ModelRule rule = rules.get(number);
            boolean[][] lost = new boolean[rule.places.size()][symbols];
            for (int i = 0; i < lost.length; i++) {
                for (int v = 0; v < symbols; v++) {
                    lost[i][v] = open(rule.places.get(i), v) && takes(rule, i, v);
                }
            }
            for (int i = 0; i < lost.length; i++) {
                boolean some = false;
                for (int v = 0; v < symbols; v++) {
                    if (lost[i][v]) {
                        goes(rule.places.get(i), v, number);
                        some = true;
                    }
                }
                if (some) {
                    wake(rule.places.get(i), number);
                }
            }
        }

        boolean takes(ModelRule rule, int i, int v) {
            switch (rule.kind) {
                case 0:
                    return !unlike(rule, i, v);
                case 1:
                    for (int place : rule.places) {
                        if (!open(place, v)) {
                            return true;
                        }
                    }
                    return false;
                case 2:
                    return rule.factors.get(i) * v + others(rule, i, false) > rule.right
                            || rule.factors.get(i) * v + others(rule, i, true) < rule.right;
                case 3:
                    return rule.factors.get(i) * v + others(rule, i, false) > rule.right;
                case 4:
                    return countTakes(rule, i, v);
                case 5:
                    return !rising(rule, i, v);
                case 6:
                    return rule.places.size() == 2 && !open(rule.places.get(1 - i), v + rule.right)
                            && !open(rule.places.get(1 - i), v - rule.right);
                default:
                    return rule.places.size() == 2 && !paired(rule, i, v);
            }
        }

        long others(ModelRule rule, int but, boolean most) {
            long all = 0;
            for (int i = 0; i < rule.places.size(); i++) {
                long best = most ? Long.MIN_VALUE : Long.MAX_VALUE;
                for (int v = 0; v < symbols; v++) {
                    if (open(rule.places.get(i), v)) {
                        long part = rule.factors.get(i) * v;
                        best = most ? Math.max(best, part) : Math.min(best, part);
                    }
                }
                all += i == but ? 0 : best;
            }
            return all;
        }

        boolean countTakes(ModelRule rule, int own, int v) {
            int can = 0;
            int must = 0;
            for (int i = 0; i < rule.places.size(); i++) {
                boolean here = open(rule.places.get(i), rule.factors.get(i));
                can += here ? 1 : 0;
                must += here && Long.bitCount(candidates(rule.places.get(i))) == 1 ? 1 : 0;
            }
            if (can < rule.right || must > rule.right) {
                return true;
            }
            boolean ownCan = open(rule.places.get(own), rule.factors.get(own));
            boolean ownMust = ownCan && Long.bitCount(candidates(rule.places.get(own))) == 1;
            return can == rule.right && ownCan && v != rule.factors.get(own)
                    || must == rule.right && ownCan && !ownMust && v == rule.factors.get(own);
        }

        boolean paired(ModelRule rule, int i, int v) {
            for (int w = 0; w < symbols; w++) {
                if (open(rule.places.get(1 - i), w) && rule.pairs.contains(i == 0 ? v * 100 + w : w * 100 + v)) {
                    return true;
                }
            }
            return false;
        }

        /** Is there a way with v at i? Tries all ways while they are few, else a matching for each v. */
        boolean unlike(ModelRule rule, int i, int v) {
            if (rule.places.size() <= 5 && symbols <= 6) {
                return someWay(rule, 0, i, v, new int[16]);
            }
            int[] owner = new int[symbols];
            java.util.Arrays.fill(owner, -1);
            owner[v] = i;
            for (int j = 0; j < rule.places.size(); j++) {
                boolean[] seen = new boolean[symbols];
                seen[v] = true;
                if (j != i && !matched(rule, j, owner, seen)) {
                    return false;
                }
            }
            return true;
        }

        boolean matched(ModelRule rule, int j, int[] owner, boolean[] seen) {
            for (int w = 0; w < symbols; w++) {
                if (open(rule.places.get(j), w) && !seen[w]) {
                    seen[w] = true;
                    if (owner[w] < 0 || matched(rule, owner[w], owner, seen)) {
                        owner[w] = j;
                        return true;
                    }
                }
            }
            return false;
        }

        boolean someWay(ModelRule rule, int at, int fixed, int v, int[] given) {
            if (at == rule.places.size()) {
                return true;
            }
            for (int w = 0; w < symbols; w++) {
                if (open(rule.places.get(at), w) && (at != fixed || w == v) && isNew(given, at, w)) {
                    given[at] = w;
                    if (someWay(rule, at + 1, fixed, v, given)) {
                        return true;
                    }
                }
            }
            return false;
        }

        boolean isNew(int[] given, int at, int w) {
            for (int i = 0; i < at; i++) {
                if (given[i] == w) {
                    return false;
                }
            }
            return true;
        }

        /** which[w]: some rising way through the places so far ends with w. */
        boolean rising(ModelRule rule, int fixed, int v) {
            boolean[] which = null;
            for (int i = 0; i < rule.places.size(); i++) {
                boolean[] next = new boolean[symbols];
                for (int w = 0; w < symbols; w++) {
                    boolean follows = which == null;
                    for (int before = 0; before < w && which != null; before++) {
                        follows |= which[before];
                    }
                    next[w] = follows && open(rule.places.get(i), w) && (i != fixed || w == v);
                }
                which = next;
            }
            for (boolean end : which) {
                if (end) {
                    return true;
                }
            }
            return false;
        }

        long candidates(int place) {
            if (!isPlace(place)) {
                return -1;
            }
            long set = 0;
            for (int symbol = 0; symbol < symbols; symbol++) {
                set |= now.open[place][symbol] ? 1L << symbol : 0;
            }
            return set;
        }

        int reason(int place, int symbol, int k) {
            if (!isPlace(place) || !isSymbol(symbol) || now.open[place][symbol] || now.reasons[place][symbol] < 0) {
                return -1;
            }
            ModelRule rule = rules.get(now.reasons[place][symbol]);
            if (k < 0 || k > rule.places.size()) {
                return -1;
            }
            return k == 0 ? now.reasons[place][symbol] : rule.places.get(k - 1);
        }

        int mark() {
            if (marks.size() == 20) {
                return -1;
            }
            marks.add(new State(now));
            return marks.size() - 1;
        }

        int back(int mark) {
            if (mark < 0 || mark >= marks.size()) {
                return 0;
            }
            now = new State(marks.get(mark));
            while (marks.size() > mark) {
                marks.remove(marks.size() - 1);
            }
            return 1;
        }

        int woken() {
            return now.told.size();
        }

        int order(int k) {
            return k < 0 || k > 999 || k >= now.told.size() ? -1 : now.told.get(k);
        }
    }
}
